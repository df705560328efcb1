/-! MEAN AND MOVING AVERAGE: the class's run and the reference's, both up to NaNs -/
/-- a sum of values of a field, from a card on -/
def smt (A : SA) (f : Nat) : Int64 → Nat → Nat → Int64
  | j, _, 0 => j
  | j, c, k + 1 => smt A f (j + (sp_sval A c f).toInt64) (c + 1) k
def MVd (A : SA) (f : Nat) : FP.Core.Datum := DD (if nt (A 8) = 0 then FP.dconst0 else FP.ddiv (FP.l2d (smt A f 0 0 (nt (A 8)))) (FP.i2d (nI (nt (A 8)))))
def mvt (A : SA) (f : Nat) (W : UInt32) : UInt32 → Nat → Nat → UInt32
  | a, _, 0 => a
  | a, c, k + 1 => mvt A f W (FP.fadd a (FP.fmul (FP.fsub (FP.i2f (sp_sval A c f)) a) W)) (c + 1) k
def MAd (A : SA) (f : Nat) (W : UInt32) : FP.Core.Datum := DF (if nt (A 8) = 0 then FP.fconst0 else mvt A f W (FP.i2f (sp_sval A 0 f)) 1 (nt (A 8) - 1))
/-- a weight that is none -/
def badW (w : UInt32) : Prop := Op.cmpValue (FP.fcmp w FP.fconst0) .l ≤ 0 ∨ 0 < Op.cmpValue (FP.fcmp w FP.fconst1) .g
theorem badW_c {a b : UInt32} (h : DF a = DF b) : badW a = badW b := by
  unfold badW
  rw [fcmp_c h (.refl (DF FP.fconst0)), fcmp_c h (.refl (DF FP.fconst1))]
section MEAN
variable {μ : Mem} {x : Nat} {A : SA}
theorem l8_sm {f : Nat} {Z : ZT} (h : INV μ x A) (hf : f < nt (A 0)) : ∀ (k n c : Nat) (j : Int64), k < n → c + k = nt (A 8) → (∀ d, alike64 d (FP.ddiv (FP.l2d (smt A f j c k)) (FP.i2d (nI (nt (A 8))))) = true → Z (.inl (some (.double d))) μ) → L_X8_mean_27 Z n x (nI f) (nI (nt (A 8))) j (nI c) μ := by
  have s := h.is.m1
  have w := h.w
  have c8 := w.c8.2
  intro k
  induction k with
  | zero =>
    intro n c j hn hc hz
    obtain ⟨n, rfl⟩ : ∃ k, n = k + 1 := ⟨n - 1, by omega⟩
    obtain rfl : c = nt (A 8) := by omega
    show B_X8_mean_27 Z _ x (nI f) (nI (nt (A 8))) j (nI (nt (A 8))) μ
    unfold B_X8_mean_27
    rw [if_pos (Int32.le_refl _)]
    exact hz
  | succ k ih =>
    intro n c j hn hc hz
    obtain ⟨n, rfl⟩ : ∃ k, n = k + 1 := ⟨n - 1, by omega⟩
    have v1 := x3_signed s h.mo.2.1.bd w (show c < nt (A 8) by omega) hf
    have := ih n (c + 1) (j + (sp_sval A c f).toInt64) (by omega) (by omega) hz
    simp (disch := first | assumption | omega) only [q_bl, q_baT, q_bi, q_ba, q_pr, q_ob, q_iT, q_iN, q_it, q_if, q_of, nI_add, pk_mul, pk_sub, nI_leI, nI_ltI, nI_eq, nI_clamp, nI_lt0, nI_eqm, m1_eq, true_or, or_true, not_false_eq_true, m1_lt, m1_nlt, m1_le, m1_nle, b01, b011, q_em, q_m1, n_0, n_1, n_2, n_3, n_4, n_5, n_6, n_7, n_8, n_9, n_10, n_11, n_12, n_14, n_15, n_16, n_20, n_24, n_25, n_32, n_36, n_40, n_41, n_42, n_43, n_45, n_46, n_48, n_57, n_59, n_60, n_73, n_76, n_97, n_99, n_100, n_106, n_109, n_120, n_122, n_136, n_160, n_176, n_200, n_255, n_800, n_1000, n_1001, n_1002, n_1003, n_1006, n_1012, n_1018, n_1019, n_1020, n_1100, n_1140, n_4800, n_4920, n_5940, n_6740, n_20220, q_kI, q_lI, q_nI, q_rI, q_iI, q_jI, q_dI, q_kJ, q_lJ, q_nJ, q_rJ, q_iJ, q_jJ, q_dJ, q_kC, q_lC, q_nC, q_rC, q_jC, q_dC, q_kF, q_lF, q_nF, q_rF, q_jF, q_dF, q_us, q_un, q_ua, L_X8_mean_27, B_X8_mean_27, q_da, q_daT, q_db, q_dl, h.is.kx, h.is.r1, s.k0, v1, this]
theorem l9_sm {m f : Nat} (h : RA μ m A) (w : WB A) (hf : f < nt (A 0)) : ∀ (k n c : Nat) (j : Int64), k < n → c + k = nt (A 8) → L_X9_sumOfAll_5 μ n m (nI f) j (nI c) = some (smt A f j c k) := by
  have c8 := w.c8
  have h' := h
  obtain ⟨s, hA⟩ := h'
  intro k
  induction k with
  | zero =>
    intro n c j hn hc
    obtain ⟨n, rfl⟩ : ∃ k, n = k + 1 := ⟨n - 1, by omega⟩
    generalize nt (A 8) = n8 at *
    simp (disch := first | assumption | omega) only [q_bl, q_baT, q_bi, q_ba, q_pr, q_ob, q_iT, q_iN, q_it, q_if, q_of, nI_add, pk_mul, pk_sub, nI_leI, nI_ltI, nI_eq, nI_clamp, nI_lt0, nI_eqm, m1_eq, true_or, or_true, not_false_eq_true, m1_lt, m1_nlt, m1_le, m1_nle, b01, b011, q_em, q_m1, n_0, n_1, n_2, n_3, n_4, n_5, n_6, n_7, n_8, n_9, n_10, n_11, n_12, n_14, n_15, n_16, n_20, n_24, n_25, n_32, n_36, n_40, n_41, n_42, n_43, n_45, n_46, n_48, n_57, n_59, n_60, n_73, n_76, n_97, n_99, n_100, n_106, n_109, n_120, n_122, n_136, n_160, n_176, n_200, n_255, n_800, n_1000, n_1001, n_1002, n_1003, n_1006, n_1012, n_1018, n_1019, n_1020, n_1100, n_1140, n_4800, n_4920, n_5940, n_6740, n_20220, q_kI, q_lI, q_nI, q_rI, q_iI, q_jI, q_dI, q_kJ, q_lJ, q_nJ, q_rJ, q_iJ, q_jJ, q_dJ, q_kC, q_lC, q_nC, q_rC, q_jC, q_dC, q_kF, q_lF, q_nF, q_rF, q_jF, q_dF, q_us, q_un, q_ua, L_X9_sumOfAll_5, B_X9_sumOfAll_5, s.k0, s.r0, s.k1, s.l1, hA, c8.1, smt]
  | succ k ih =>
    intro n c j hn hc
    obtain ⟨n, rfl⟩ : ∃ k, n = k + 1 := ⟨n - 1, by omega⟩
    have v1 := x9_signed h w (show c < nt (A 8) by omega) hf
    have := ih n (c + 1) (j + (sp_sval A c f).toInt64) (by omega) (by omega)
    have v8 := c8.1
    have b8 := c8.2
    clear c8 ih
    generalize nt (A 8) = n8 at *
    simp (disch := first | assumption | omega) only [q_bl, q_baT, q_bi, q_ba, q_pr, q_ob, q_iT, q_iN, q_it, q_if, q_of, nI_add, pk_mul, pk_sub, nI_leI, nI_ltI, nI_eq, nI_clamp, nI_lt0, nI_eqm, m1_eq, true_or, or_true, not_false_eq_true, m1_lt, m1_nlt, m1_le, m1_nle, b01, b011, q_em, q_m1, n_0, n_1, n_2, n_3, n_4, n_5, n_6, n_7, n_8, n_9, n_10, n_11, n_12, n_14, n_15, n_16, n_20, n_24, n_25, n_32, n_36, n_40, n_41, n_42, n_43, n_45, n_46, n_48, n_57, n_59, n_60, n_73, n_76, n_97, n_99, n_100, n_106, n_109, n_120, n_122, n_136, n_160, n_176, n_200, n_255, n_800, n_1000, n_1001, n_1002, n_1003, n_1006, n_1012, n_1018, n_1019, n_1020, n_1100, n_1140, n_4800, n_4920, n_5940, n_6740, n_20220, q_kI, q_lI, q_nI, q_rI, q_iI, q_jI, q_dI, q_kJ, q_lJ, q_nJ, q_rJ, q_iJ, q_jJ, q_dJ, q_kC, q_lC, q_nC, q_rC, q_jC, q_dC, q_kF, q_lF, q_nF, q_rF, q_jF, q_dF, q_us, q_un, q_ua, L_X9_sumOfAll_5, B_X9_sumOfAll_5, s.k0, s.r0, s.k1, s.l1, hA, v8, v1, smt, this]
theorem lm_meanN {i1 : Int32} {Z : ZT} (h : INV μ x A) (hi : ¬ IR i1 (nt (A 0))) (hz : Z (.inl (some (.int (nI 1)))) μ) : F_L_mean x i1 (x + 133) μ Z := by
  unfold F_L_mean F_X8_mean
  refine ⟨h.is.kx, h.is.kx, ⟨_, r8_fieldN h hi, ?_⟩⟩
  simp only [q_dl, q_dp, q_dpL, q_dpR]
  refine dzr_x ?_
  rw [if_pos rfl]
  exact hz
theorem lm_mean {f : Nat} {Z : ZT} (h : INV μ x A) (hf : f < nt (A 0)) (hk : gK μ (x + 133) = 104) (hl : gL μ (x + 133) = 1) (hz : ∀ d, DD d = MVd A f → Z (.inl (some (.int (nI 0)))) (stD μ (x + 133) 0 d)) : F_L_mean x (nI f) (x + 133) μ Z := by
  have s := h.is.m1
  have w := h.w
  have c8 := w.c8.2
  have n8 := h.mo.2.1.n8 w
  have hi : IR (nI f) (nt (A 0)) := by rw [IR.nI (by have := w.c0.2; omega)]; exact hf
  have e0 : inb (0 : Int32) 1 := by decide +kernel
  unfold F_L_mean F_X8_mean
  refine ⟨h.is.kx, h.is.kx, ⟨_, r8_field h hi, ?_⟩⟩
  simp only [q_dl, q_dp, q_dpL, q_dpR]
  refine ⟨h.is.kx, by rw [h.is.r1]; exact s.k0, by rw [h.is.r1, s.r1]; exact s.k19, ?_⟩
  rw [h.is.r1, s.r1, n8]
  have hz' : ∀ d, DD d = MVd A f → (dzr Value.double (fun k3 μ2 => if k3 = 0 then Z (.inl (some (.int (1 : Int32)))) μ2 else False) fun x4 μ2 => da (gK μ2 (x + 133) = 104) <| da (inb (0 : Int32) (gL μ2 (x + 133))) <| Z (.inl (some (.int (0 : Int32)))) (stD μ2 (x + 133) (0 : Int32).toNatClampNeg x4)) (.inl (some (.double d))) μ := fun d hd => dzr_v ⟨hk, by rw [hl]; exact e0, hz d hd⟩
  by_cases c0 : nt (A 8) = 0
  · rw [if_pos (by rw [c0]; rfl)]
    exact hz' _ (by unfold MVd; rw [if_pos c0])
  · rw [if_neg (by rw [show (0 : Int32) = nI 0 from rfl, nI_eq (by omega) (by decide)]; exact c0)]
    exact l8_sm h hf (nt (A 8)) FU 0 0 (FU_gt (by omega)) (by omega) (fun d hd => hz' d (by unfold MVd; rw [if_neg c0]; exact al64 hd))
theorem r9_meanN {m : Nat} {i1 : Int32} {Z : ZT} (h : RA μ m A) (w : WB A) (hi : ¬ IR i1 (nt (A 0))) (hz : ∀ b, Z (.inl (some (.double b))) (stI μ m 5 (nI 1))) : F_X9_mean m i1 μ Z := by
  unfold F_X9_mean
  refine ⟨h.1.k0, ⟨_, q9_fieldN h w hi, ⟨_, q9_goodN h.1, ?_⟩⟩⟩
  simp only [q_dl, q_dp, q_dpL, q_dpR]
  rw [if_pos (show nI 0 = (0 : Int32) from rfl)]
  exact hz _
theorem r9_mean {m f : Nat} {Z : ZT} (h : RA μ m A) (w : WB A) (hf : f < nt (A 0)) (hz : ∀ b, DD b = MVd A f → Z (.inl (some (.double b))) (stI μ m 5 (nI 0))) : F_X9_mean m (nI f) μ Z := by
  have hi : IR (nI f) (nt (A 0)) := by rw [IR.nI (by have := w.c0.2; omega)]; exact hf
  have h1 := h.thr (v := nI 0)
  have s := h1.1
  have c8 := w.c8
  have e8 : gI (stI μ m 5 (nI 0)) (gR (stI μ m 5 (nI 0)) m 0) (8 : Int32).toNatClampNeg = nI (nt (A 8)) := by
    rw [s.r0, h1.2, show (8 : Int32).toNatClampNeg = 8 from by decide +kernel]; exact c8.1
  unfold F_X9_mean
  refine ⟨h.1.k0, ⟨_, q9_field h w hi, ⟨_, q9_good h.1, ?_⟩⟩⟩
  simp only [q_dl, q_dp, q_dpL, q_dpR]
  rw [if_neg (by decide +kernel)]
  refine ⟨s.k0, by rw [s.r0]; exact s.k1, by rw [s.r0, s.l1]; decide +kernel, ?_⟩
  rw [e8]
  by_cases c0 : nt (A 8) = 0
  · rw [if_pos (by rw [c0]; rfl)]
    exact hz _ (by unfold MVd; rw [if_pos c0])
  · rw [if_neg (by rw [show (0 : Int32) = nI 0 from rfl, nI_eq (by have := c8.2; omega) (by decide)]; exact c0)]
    refine ⟨_, l9_sm h1 w hf (nt (A 8)) FU 0 0 (FU_gt (by have := c8.2; omega)) (by omega), fun d hd => hz d ?_⟩
    unfold MVd
    rw [if_neg c0]
    exact al64 hd
theorem l8_mv {f : Nat} {wt W : UInt32} {Z : ZT} (h : INV μ x A) (hf : f < nt (A 0)) (hW : DF wt = DF W) : ∀ (k n c : Nat) (a b : UInt32), k < n → c + k = nt (A 8) → DF a = DF b → (∀ r, DF r = DF (mvt A f W b c k) → Z (.inl (some (.float r))) μ) → L_X8_movingAverage_67 Z n x (nI f) wt a (nI c) μ := by
  have s := h.is.m1
  have w := h.w
  have c8 := w.c8.2
  have n8 := h.mo.2.1.n8 w
  intro k
  induction k with
  | zero =>
    intro n c a b hn hc ha hz
    obtain ⟨n, rfl⟩ : ∃ k, n = k + 1 := ⟨n - 1, by omega⟩
    have := hz a ha
    simp (disch := first | assumption | omega) only [q_bl, q_baT, q_bi, q_ba, q_pr, q_ob, q_iT, q_iN, q_it, q_if, q_of, nI_add, pk_mul, pk_sub, nI_leI, nI_ltI, nI_eq, nI_clamp, nI_lt0, nI_eqm, m1_eq, true_or, or_true, not_false_eq_true, m1_lt, m1_nlt, m1_le, m1_nle, b01, b011, q_em, q_m1, n_0, n_1, n_2, n_3, n_4, n_5, n_6, n_7, n_8, n_9, n_10, n_11, n_12, n_14, n_15, n_16, n_20, n_24, n_25, n_32, n_36, n_40, n_41, n_42, n_43, n_45, n_46, n_48, n_57, n_59, n_60, n_73, n_76, n_97, n_99, n_100, n_106, n_109, n_120, n_122, n_136, n_160, n_176, n_200, n_255, n_800, n_1000, n_1001, n_1002, n_1003, n_1006, n_1012, n_1018, n_1019, n_1020, n_1100, n_1140, n_4800, n_4920, n_5940, n_6740, n_20220, q_kI, q_lI, q_nI, q_rI, q_iI, q_jI, q_dI, q_kJ, q_lJ, q_nJ, q_rJ, q_iJ, q_jJ, q_dJ, q_kC, q_lC, q_nC, q_rC, q_jC, q_dC, q_kF, q_lF, q_nF, q_rF, q_jF, q_dF, q_us, q_un, q_ua, L_X8_movingAverage_67, B_X8_movingAverage_67, q_da, q_daT, h.is.kx, h.is.r1, s.k0, s.r1, s.k19, n8, this]
  | succ k ih =>
    intro n c a b hn hc ha hz
    obtain ⟨n, rfl⟩ : ∃ k, n = k + 1 := ⟨n - 1, by omega⟩
    have v1 := x3_signed s h.mo.2.1.bd w (show c < nt (A 8) by omega) hf
    simp (disch := first | assumption | omega) only [q_bl, q_baT, q_bi, q_ba, q_pr, q_ob, q_iT, q_iN, q_it, q_if, q_of, nI_add, pk_mul, pk_sub, nI_leI, nI_ltI, nI_eq, nI_clamp, nI_lt0, nI_eqm, m1_eq, true_or, or_true, not_false_eq_true, m1_lt, m1_nlt, m1_le, m1_nle, b01, b011, q_em, q_m1, n_0, n_1, n_2, n_3, n_4, n_5, n_6, n_7, n_8, n_9, n_10, n_11, n_12, n_14, n_15, n_16, n_20, n_24, n_25, n_32, n_36, n_40, n_41, n_42, n_43, n_45, n_46, n_48, n_57, n_59, n_60, n_73, n_76, n_97, n_99, n_100, n_106, n_109, n_120, n_122, n_136, n_160, n_176, n_200, n_255, n_800, n_1000, n_1001, n_1002, n_1003, n_1006, n_1012, n_1018, n_1019, n_1020, n_1100, n_1140, n_4800, n_4920, n_5940, n_6740, n_20220, q_kI, q_lI, q_nI, q_rI, q_iI, q_jI, q_dI, q_kJ, q_lJ, q_nJ, q_rJ, q_iJ, q_jJ, q_dJ, q_kC, q_lC, q_nC, q_rC, q_jC, q_dC, q_kF, q_lF, q_nF, q_rF, q_jF, q_dF, q_us, q_un, q_ua, L_X8_movingAverage_67, B_X8_movingAverage_67, q_da, q_daT, q_db, q_dl, q_ddr, h.is.kx, h.is.r1, s.k0, s.r1, s.k19, n8, v1]
    intro z1 a1 z2 a2 z3 a3
    have d1 := (al32 a1).trans (congrArg DF (fsub_c (.refl (DF (FP.i2f (sp_sval A c f)))) ha))
    have d2 := (al32 a2).trans (congrArg DF (fmul_c d1 hW))
    have d3 := (al32 a3).trans (congrArg DF (fadd_c ha d2))
    exact ih n (c + 1) z3 _ (by omega) (by omega) d3 hz
theorem l9_mv {m f : Nat} {wt W : UInt32} {Z : ZT} (h : RA μ m A) (w : WB A) (hf : f < nt (A 0)) (hW : DF wt = DF W) : ∀ (k n c : Nat) (a b : UInt32), k < n → c + k = nt (A 8) → DF a = DF b → (∀ r, DF r = DF (mvt A f W b c k) → Z (.inl (some (.float r))) μ) → L_X9_movingAverage_52 Z n m (nI f) wt a (nI c) μ := by
  have c8 := w.c8
  have b8 := c8.2
  have h' := h
  obtain ⟨s, hA⟩ := h'
  have e8 : gI μ (gR μ m 0) (8 : Int32).toNatClampNeg = nI (nt (A 8)) := by
    rw [s.r0, hA, show (8 : Int32).toNatClampNeg = 8 from by decide +kernel]; exact c8.1
  intro k
  induction k with
  | zero =>
    intro n c a b hn hc ha hz
    obtain ⟨n, rfl⟩ : ∃ k, n = k + 1 := ⟨n - 1, by omega⟩
    obtain rfl : c = nt (A 8) := by omega
    show B_X9_movingAverage_52 Z _ m (nI f) wt a (nI (nt (A 8))) μ
    unfold B_X9_movingAverage_52
    refine ⟨s.k0, by rw [s.r0]; exact s.k1, by rw [s.r0, s.l1]; decide +kernel, ?_⟩
    rw [e8, if_pos (Int32.le_refl _)]
    exact hz a ha
  | succ k ih =>
    intro n c a b hn hc ha hz
    obtain ⟨n, rfl⟩ : ∃ k, n = k + 1 := ⟨n - 1, by omega⟩
    have v1 := x9_signed h w (show c < nt (A 8) by omega) hf
    show B_X9_movingAverage_52 Z _ m (nI f) wt a (nI c) μ
    unfold B_X9_movingAverage_52
    refine ⟨s.k0, by rw [s.r0]; exact s.k1, by rw [s.r0, s.l1]; decide +kernel, ?_⟩
    rw [e8, if_neg (by rw [nI_leI (by omega) (by omega)]; omega)]
    refine ⟨_, v1, ?_⟩
    simp only [q_dl, q_ddr]
    intro z1 a1 z2 a2 z3 a3
    have d1 := (al32 a1).trans (congrArg DF (fsub_c (.refl (DF (FP.i2f (sp_sval A c f)))) ha))
    have d2 := (al32 a2).trans (congrArg DF (fmul_c d1 hW))
    have d3 := (al32 a3).trans (congrArg DF (fadd_c ha d2))
    rw [show nI c + 1 = nI (c + 1) from nI_add c 1]
    exact ih n (c + 1) z3 _ (by omega) (by omega) d3 hz
theorem lm_mvN {i1 : Int32} {wt : UInt32} {Z : ZT} (h : INV μ x A) (hi : ¬ IR i1 (nt (A 0))) (hz : Z (.inl (some (.int (nI 1)))) μ) : F_L_movingAverage x i1 wt (x + 133) μ Z := by
  unfold F_L_movingAverage F_X8_movingAverage
  refine ⟨h.is.kx, h.is.kx, ⟨_, r8_fieldN h hi, ?_⟩⟩
  simp only [q_dl, q_dp, q_dpL, q_dpR]
  refine dzr_x ?_
  rw [if_pos rfl]
  exact hz
theorem x8_mvW {f : Nat} {wt : UInt32} {Z : ZT} (h : INV μ x A) (hi : IR (nI f) (nt (A 0))) (hw : badW wt) (hz : Z (.inr 1) μ) : F_X8_movingAverage x (nI f) wt μ Z := by
  unfold F_X8_movingAverage
  refine ⟨h.is.kx, ⟨_, r8_field h hi, ?_⟩⟩
  have hb : B_X8_movingAverage_21 Z x (nI f) wt μ := by
    unfold B_X8_movingAverage_21 B_X8_movingAverage_22
    rw [if_pos rfl]; exact hz
  simp only [q_dl, q_dp, q_dpL, q_dpR]
  rcases hw with h1 | h1
  · rw [if_pos h1]; exact hb
  · split
    · exact hb
    · first | exact hb | (rw [if_pos h1]; exact hb)
theorem lm_mvW {f : Nat} {wt : UInt32} {Z : ZT} (h : INV μ x A) (hi : IR (nI f) (nt (A 0))) (hw : badW wt) (hz : Z (.inl (some (.int (nI 2)))) μ) : F_L_movingAverage x (nI f) wt (x + 133) μ Z := by
  unfold F_L_movingAverage
  refine ⟨h.is.kx, x8_mvW h hi hw (dzr_x ?_)⟩
  rw [if_neg (by decide), if_pos rfl]
  exact hz
theorem x8_mv {f : Nat} {wt W : UInt32} {Z : ZT} (h : INV μ x A) (hf : f < nt (A 0)) (hW : DF wt = DF W) (hw : ¬ badW wt) (hz : ∀ r, DF r = MAd A f W → Z (.inl (some (.float r))) μ) : F_X8_movingAverage x (nI f) wt μ Z := by
  have s := h.is.m1
  have w := h.w
  have c8 := w.c8.2
  have n8 := h.mo.2.1.n8 w
  have hi : IR (nI f) (nt (A 0)) := by rw [IR.nI (by have := w.c0.2; omega)]; exact hf
  have w1 : ¬ Op.cmpValue (FP.fcmp wt FP.fconst0) .l ≤ 0 := fun e => hw (Or.inl e)
  have w2 : ¬ 0 < Op.cmpValue (FP.fcmp wt FP.fconst1) .g := fun e => hw (Or.inr e)
  unfold F_X8_movingAverage
  refine ⟨h.is.kx, ⟨_, r8_field h hi, ?_⟩⟩
  simp only [q_dl, q_dp, q_dpL, q_dpR]
  rw [if_neg w1, if_neg w2]
  unfold B_X8_movingAverage_22
  rw [if_neg (by decide +kernel)]
  refine ⟨h.is.kx, by rw [h.is.r1]; exact s.k0, by rw [h.is.r1, s.r1]; exact s.k19, ?_⟩
  rw [h.is.r1, s.r1, n8]
  by_cases c0 : nt (A 8) = 0
  · rw [if_pos (by rw [c0]; rfl)]
    exact hz _ (by unfold MAd; rw [if_pos c0])
  · rw [if_neg (by rw [show (0 : Int32) = nI 0 from rfl, nI_eq (by omega) (by decide)]; exact c0)]
    refine ⟨_, x3_signed s h.mo.2.1.bd w (show 0 < nt (A 8) by omega) hf, ?_⟩
    exact l8_mv h hf hW (nt (A 8) - 1) FU 1 _ _ (FU_gt (by omega)) (by omega) (.refl _) (fun r hr => hz r (by unfold MAd; rw [if_neg c0]; exact hr))
theorem lm_mv {f : Nat} {wt W : UInt32} {Z : ZT} (h : INV μ x A) (hf : f < nt (A 0)) (hW : DF wt = DF W) (hw : ¬ badW wt) (hk : gK μ (x + 133) = 104) (hl : gL μ (x + 133) = 1) (hz : ∀ d r, DF r = MAd A f W → DD d = DD (FP.f2d r) → Z (.inl (some (.int (nI 0)))) (stD μ (x + 133) 0 d)) : F_L_movingAverage x (nI f) wt (x + 133) μ Z := by
  have e0 : inb (0 : Int32) 1 := by decide +kernel
  unfold F_L_movingAverage
  refine ⟨h.is.kx, x8_mv h hf hW hw (fun r hr => dzr_v fun d hd => ⟨hk, by rw [hl]; exact e0, hz d r hr (al64 hd)⟩)⟩
theorem x9_mvB {m : Nat} {i1 : Int32} {wt : UInt32} {v : Int32} {Z : ZT} (hk : gK μ m = 8) (e1 : F_X9_isField m i1 μ = some v) (hb : badW wt → B_X9_movingAverage_23 Z m i1 wt (nI 0) v m μ) (hg : ¬ badW wt → B_X9_movingAverage_23 Z m i1 wt (nI 1) v m μ) : F_X9_movingAverage m i1 wt μ Z := by
  unfold F_X9_movingAverage
  refine ⟨hk, ⟨_, e1, ?_⟩⟩
  simp only [q_dl, q_dp, q_dpL, q_dpR]
  split
  · next h1 => exact hb (Or.inl h1)
  · next h1 =>
    split
    · next h2 => exact hb (Or.inr h2)
    · next h2 => exact hg (fun e => e.elim h1 h2)
theorem r9_mvN {m : Nat} {i1 : Int32} {wt : UInt32} {Z : ZT} (h : RA μ m A) (w : WB A) (hi : ¬ IR i1 (nt (A 0))) (hz : ∀ b, Z (.inl (some (.float b))) (stI μ m 5 (nI 1))) : F_X9_movingAverage m i1 wt μ Z := by
  have key : ∀ v, B_X9_movingAverage_23 Z m i1 wt v (nI 0) m μ := fun v => by
    unfold B_X9_movingAverage_23
    refine ⟨h.1.k0, ⟨_, q9_good2N h.1, ?_⟩⟩
    simp only [q_dl, q_dp, q_dpL, q_dpR]
    rw [if_pos (show nI 0 = (0 : Int32) from rfl)]
    exact hz _
  exact x9_mvB h.1.k0 (q9_fieldN h w hi) (fun _ => key _) (fun _ => key _)
theorem r9_mvW {m : Nat} {i1 : Int32} {wt : UInt32} {Z : ZT} (h : RA μ m A) (w : WB A) (hi : IR i1 (nt (A 0))) (hw : badW wt) (hz : ∀ b, Z (.inl (some (.float b))) (stI μ m 5 (nI 2))) : F_X9_movingAverage m i1 wt μ Z := by
  refine x9_mvB h.1.k0 (q9_field h w hi) (fun _ => ?_) (fun e => absurd hw e)
  unfold B_X9_movingAverage_23
  refine ⟨h.1.k0, ⟨_, q9_good2M h.1, ?_⟩⟩
  simp only [q_dl, q_dp, q_dpL, q_dpR]
  rw [if_pos (show nI 0 = (0 : Int32) from rfl)]
  exact hz _
theorem r9_mv {m f : Nat} {wt W : UInt32} {Z : ZT} (h : RA μ m A) (w : WB A) (hf : f < nt (A 0)) (hW : DF wt = DF W) (hw : ¬ badW wt) (hz : ∀ r, DF r = MAd A f W → Z (.inl (some (.float r))) (stI μ m 5 (nI 0))) : F_X9_movingAverage m (nI f) wt μ Z := by
  have hi : IR (nI f) (nt (A 0)) := by rw [IR.nI (by have := w.c0.2; omega)]; exact hf
  have h1 := h.thr (v := nI 0)
  have s := h1.1
  have c8 := w.c8
  have e8 : gI (stI μ m 5 (nI 0)) (gR (stI μ m 5 (nI 0)) m 0) (8 : Int32).toNatClampNeg = nI (nt (A 8)) := by
    rw [s.r0, h1.2, show (8 : Int32).toNatClampNeg = 8 from by decide +kernel]; exact c8.1
  refine x9_mvB h.1.k0 (q9_field h w hi) (fun e => absurd e hw) (fun _ => ?_)
  unfold B_X9_movingAverage_23
  refine ⟨h.1.k0, ⟨_, q9_good2 h.1, ?_⟩⟩
  simp only [q_dl, q_dp, q_dpL, q_dpR]
  rw [if_neg (by decide +kernel)]
  refine ⟨s.k0, by rw [s.r0]; exact s.k1, by rw [s.r0, s.l1]; decide +kernel, ?_⟩
  rw [e8]
  by_cases c0 : nt (A 8) = 0
  · rw [if_pos (by rw [c0]; rfl)]
    exact hz _ (by unfold MAd; rw [if_pos c0])
  · rw [if_neg (by rw [show (0 : Int32) = nI 0 from rfl, nI_eq (by have := c8.2; omega) (by decide)]; exact c0)]
    refine ⟨_, x9_signed h1 w (show 0 < nt (A 8) by omega) hf, ?_⟩
    exact l9_mv h1 w hf hW (nt (A 8) - 1) FU 1 _ _ (FU_gt (by have := c8.2; omega)) (by omega) (.refl _) (fun r hr => hz r (by unfold MAd; rw [if_neg c0]; exact hr))
end MEAN

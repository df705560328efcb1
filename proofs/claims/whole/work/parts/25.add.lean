/-! LAYER 3: the class's machine: adding -/
def zI (z : Int) : Int32 := Int32.ofInt z
theorem zI_T {z : Int} (h1 : -2147483648 ≤ z) (h2 : z < 2147483648) : (zI z).toInt = z := Int32.toInt_ofInt_of_le (by simpa using h1) (by simpa using h2)
theorem zI_of (x : Int32) : zI x.toInt = x := Int32.ofInt_toInt x
theorem nI_z (n : Nat) : nI n = zI n := by unfold nI zI; rw [Int32.ofInt_eq_ofNat]
theorem neg_T {n : Nat} (h : n < 2 ^ 31) : (-nI n).toInt = -(n : Int) := sb_negT h
theorem add_T {x y : Int32} (h1 : -2147483648 ≤ x.toInt + y.toInt) (h2 : x.toInt + y.toInt < 2147483648) : (x + y).toInt = x.toInt + y.toInt := by
  rw [Int32.toInt_add]
  exact Int.bmod_eq_of_le (by simpa using h1) (by simpa using h2)
theorem le0_T {x : Int32} : (nI 0 ≤ x) = (0 ≤ x.toInt) := propext (by rw [Int32.le_iff_toInt_le]; exact Iff.rfl)
theorem lt0_T {x : Int32} : (x < nI 0) = (x.toInt < 0) := propext (by rw [Int32.lt_iff_toInt_lt]; exact Iff.rfl)
/-- a number's size -/
theorem sz_pos {x : Int32} (h : 0 ≤ x.toInt) : x = nI x.toInt.natAbs := by
  rw [nI_z]
  have : ((x.toInt.natAbs : Nat) : Int) = x.toInt := by omega
  rw [this, zI_of]
theorem sz_neg {x : Int32} (h : x.toInt < 0) (hb : x.toInt.natAbs < 2 ^ 31) : -x = nI x.toInt.natAbs := by
  have h1 : x = -nI x.toInt.natAbs := by
    apply Int32.toInt_inj.mp
    rw [neg_T hb]; omega
  rw [h1]
  have h2 : (-nI x.toInt.natAbs).toInt = -(x.toInt.natAbs : Int) := neg_T hb
  rw [h2, Int32.neg_neg]
  congr 1
  omega
theorem ten_lt {w : Nat} (h : w ≤ 9) : 10 ^ w ≤ 1000000000 := by
  have : (10 : Nat) ^ w ≤ 10 ^ 9 := Nat.pow_le_pow_right (by decide) h
  exact this
theorem l_add {μ : Mem} {r k wd : Nat} {sm : Int32} {size : Nat} (s : SM μ r) (hk6 : k < 6) (hat : F_X6_at (r + 6) (nI k) (nI 0) μ = some (nI wd)) (hw9 : wd ≤ 9) (hsz : size < 2 ^ 31) (hsm : sm.toInt.natAbs = size) :
    ∀ (m n d : Nat), m < n → d + m = wd → L_X3_addTo_41 n r (nI k) sm (nI size) (nI (10 ^ d)) (nI d) μ =
      some (stI (if 10 ^ wd ≤ size then stI μ (r + 22) k (gI μ (r + 22) k + nI 1) else μ) (r + 21) k (if 0 ≤ sm.toInt then nI (size % 10 ^ wd) else -nI (size % 10 ^ wd))) := by
  intro m
  induction m with
  | zero =>
    intro n d hn he
    obtain ⟨n, rfl⟩ : ∃ k, n = k + 1 := ⟨n - 1, by omega⟩
    obtain rfl : d = wd := by omega
    have ht := ten_lt hw9
    have hp : 0 < 10 ^ d := Nat.pow_pos (by decide)
    by_cases hx : 10 ^ d ≤ size
    · by_cases hy : 0 ≤ sm.toInt
      · simp (disch := first | assumption | omega) only [q_bl, q_baT, q_bi, q_ba, q_pr, q_ob, q_iT, q_iN, q_it, q_if, q_of, nI_add, pk_mul, pk_sub, nI_leI, nI_ltI, nI_eq, nI_clamp, nI_lt0, nI_eqm, m1_eq, true_or, or_true, not_false_eq_true, m1_lt, m1_nlt, m1_le, m1_nle, b01, b011, q_em, q_m1, n_0, n_1, n_2, n_3, n_4, n_5, n_6, n_7, n_8, n_9, n_10, n_11, n_12, n_14, n_15, n_16, n_20, n_24, n_25, n_32, n_36, n_40, n_41, n_42, n_43, n_45, n_46, n_48, n_57, n_59, n_60, n_73, n_76, n_97, n_99, n_100, n_106, n_109, n_120, n_122, n_136, n_160, n_176, n_200, n_255, n_800, n_1000, n_1001, n_1002, n_1003, n_1006, n_1012, n_1018, n_1019, n_1020, n_1100, n_1140, n_4800, n_4920, n_5940, n_6740, n_20220, q_kI, q_lI, q_nI, q_rI, q_iI, q_jI, q_dI, q_kJ, q_lJ, q_nJ, q_rJ, q_iJ, q_jJ, q_dJ, q_kC, q_lC, q_nC, q_rC, q_jC, q_dC, q_kF, q_lF, q_nF, q_rF, q_jF, q_dF, q_us, q_un, q_ua, L_X3_addTo_41, B_X3_addTo_41, B_X3_addTo_100, s.k0, s.r0, s.k1, s.b2, s.k6, s.r2, s.r3, s.k21, s.k22, s.l21, s.l22, hat, le0_T, pk_rem]
      · simp (disch := first | assumption | omega) only [q_bl, q_baT, q_bi, q_ba, q_pr, q_ob, q_iT, q_iN, q_it, q_if, q_of, nI_add, pk_mul, pk_sub, nI_leI, nI_ltI, nI_eq, nI_clamp, nI_lt0, nI_eqm, m1_eq, true_or, or_true, not_false_eq_true, m1_lt, m1_nlt, m1_le, m1_nle, b01, b011, q_em, q_m1, n_0, n_1, n_2, n_3, n_4, n_5, n_6, n_7, n_8, n_9, n_10, n_11, n_12, n_14, n_15, n_16, n_20, n_24, n_25, n_32, n_36, n_40, n_41, n_42, n_43, n_45, n_46, n_48, n_57, n_59, n_60, n_73, n_76, n_97, n_99, n_100, n_106, n_109, n_120, n_122, n_136, n_160, n_176, n_200, n_255, n_800, n_1000, n_1001, n_1002, n_1003, n_1006, n_1012, n_1018, n_1019, n_1020, n_1100, n_1140, n_4800, n_4920, n_5940, n_6740, n_20220, q_kI, q_lI, q_nI, q_rI, q_iI, q_jI, q_dI, q_kJ, q_lJ, q_nJ, q_rJ, q_iJ, q_jJ, q_dJ, q_kC, q_lC, q_nC, q_rC, q_jC, q_dC, q_kF, q_lF, q_nF, q_rF, q_jF, q_dF, q_us, q_un, q_ua, L_X3_addTo_41, B_X3_addTo_41, B_X3_addTo_100, s.k0, s.r0, s.k1, s.b2, s.k6, s.r2, s.r3, s.k21, s.k22, s.l21, s.l22, hat, le0_T, pk_rem]
    · have hm : size % 10 ^ d = size := Nat.mod_eq_of_lt (by omega)
      by_cases hy : 0 ≤ sm.toInt
      · simp (disch := first | assumption | omega) only [q_bl, q_baT, q_bi, q_ba, q_pr, q_ob, q_iT, q_iN, q_it, q_if, q_of, nI_add, pk_mul, pk_sub, nI_leI, nI_ltI, nI_eq, nI_clamp, nI_lt0, nI_eqm, m1_eq, true_or, or_true, not_false_eq_true, m1_lt, m1_nlt, m1_le, m1_nle, b01, b011, q_em, q_m1, n_0, n_1, n_2, n_3, n_4, n_5, n_6, n_7, n_8, n_9, n_10, n_11, n_12, n_14, n_15, n_16, n_20, n_24, n_25, n_32, n_36, n_40, n_41, n_42, n_43, n_45, n_46, n_48, n_57, n_59, n_60, n_73, n_76, n_97, n_99, n_100, n_106, n_109, n_120, n_122, n_136, n_160, n_176, n_200, n_255, n_800, n_1000, n_1001, n_1002, n_1003, n_1006, n_1012, n_1018, n_1019, n_1020, n_1100, n_1140, n_4800, n_4920, n_5940, n_6740, n_20220, q_kI, q_lI, q_nI, q_rI, q_iI, q_jI, q_dI, q_kJ, q_lJ, q_nJ, q_rJ, q_iJ, q_jJ, q_dJ, q_kC, q_lC, q_nC, q_rC, q_jC, q_dC, q_kF, q_lF, q_nF, q_rF, q_jF, q_dF, q_us, q_un, q_ua, L_X3_addTo_41, B_X3_addTo_41, B_X3_addTo_100, s.k0, s.r0, s.k1, s.b2, s.k6, s.r2, s.r3, s.k21, s.k22, s.l21, s.l22, hat, le0_T, pk_rem, hm]
      · simp (disch := first | assumption | omega) only [q_bl, q_baT, q_bi, q_ba, q_pr, q_ob, q_iT, q_iN, q_it, q_if, q_of, nI_add, pk_mul, pk_sub, nI_leI, nI_ltI, nI_eq, nI_clamp, nI_lt0, nI_eqm, m1_eq, true_or, or_true, not_false_eq_true, m1_lt, m1_nlt, m1_le, m1_nle, b01, b011, q_em, q_m1, n_0, n_1, n_2, n_3, n_4, n_5, n_6, n_7, n_8, n_9, n_10, n_11, n_12, n_14, n_15, n_16, n_20, n_24, n_25, n_32, n_36, n_40, n_41, n_42, n_43, n_45, n_46, n_48, n_57, n_59, n_60, n_73, n_76, n_97, n_99, n_100, n_106, n_109, n_120, n_122, n_136, n_160, n_176, n_200, n_255, n_800, n_1000, n_1001, n_1002, n_1003, n_1006, n_1012, n_1018, n_1019, n_1020, n_1100, n_1140, n_4800, n_4920, n_5940, n_6740, n_20220, q_kI, q_lI, q_nI, q_rI, q_iI, q_jI, q_dI, q_kJ, q_lJ, q_nJ, q_rJ, q_iJ, q_jJ, q_dJ, q_kC, q_lC, q_nC, q_rC, q_jC, q_dC, q_kF, q_lF, q_nF, q_rF, q_jF, q_dF, q_us, q_un, q_ua, L_X3_addTo_41, B_X3_addTo_41, B_X3_addTo_100, s.k0, s.r0, s.k1, s.b2, s.k6, s.r2, s.r3, s.k21, s.k22, s.l21, s.l22, hat, le0_T, pk_rem, hm]
  | succ m ih =>
    intro n d hn he
    obtain ⟨n, rfl⟩ : ∃ k, n = k + 1 := ⟨n - 1, by omega⟩
    have := ih n (d + 1) (by omega) (by omega)
    rw [Nat.pow_succ] at this
    simp (disch := first | assumption | omega) only [q_bl, q_baT, q_bi, q_ba, q_pr, q_ob, q_iT, q_iN, q_it, q_if, q_of, nI_add, pk_mul, pk_sub, nI_leI, nI_ltI, nI_eq, nI_clamp, nI_lt0, nI_eqm, m1_eq, true_or, or_true, not_false_eq_true, m1_lt, m1_nlt, m1_le, m1_nle, b01, b011, q_em, q_m1, n_0, n_1, n_2, n_3, n_4, n_5, n_6, n_7, n_8, n_9, n_10, n_11, n_12, n_14, n_15, n_16, n_20, n_24, n_25, n_32, n_36, n_40, n_41, n_42, n_43, n_45, n_46, n_48, n_57, n_59, n_60, n_73, n_76, n_97, n_99, n_100, n_106, n_109, n_120, n_122, n_136, n_160, n_176, n_200, n_255, n_800, n_1000, n_1001, n_1002, n_1003, n_1006, n_1012, n_1018, n_1019, n_1020, n_1100, n_1140, n_4800, n_4920, n_5940, n_6740, n_20220, q_kI, q_lI, q_nI, q_rI, q_iI, q_jI, q_dI, q_kJ, q_lJ, q_nJ, q_rJ, q_iJ, q_jJ, q_dJ, q_kC, q_lC, q_nC, q_rC, q_jC, q_dC, q_kF, q_lF, q_nF, q_rF, q_jF, q_dF, q_us, q_un, q_ua, L_X3_addTo_41, B_X3_addTo_41, s.k0, s.r0, s.k1, s.b2, s.k6, hat, this]
-- what does not change where only the run's places change
theorem WB.cg {A B : SA} (h : WB A) (e : ∀ i, i < 1000 → B i = A i) : WB B := by
  have b0 := h.c0.2
  have b1 := h.c1.2
  have b2 := h.c2.2
  have b3 := h.c3.2
  have b4 := h.c4.2
  have b5 := h.c5.2
  have b6 := h.c6.2
  have b7 := h.c7.2
  have b8 := h.c8.2
  have e0 := e 0 (by decide)
  have e1 := e 1 (by decide)
  have e2 := e 2 (by decide)
  have e3 := e 3 (by decide)
  have e4 := e 4 (by decide)
  have e5 := e 5 (by decide)
  have e6 := e 6 (by decide)
  have e7 := e 7 (by decide)
  have e8 := e 8 (by decide)
  obtain ⟨h0, h1, h2, h3, h4, h5, h6, h7, h8, h9, h10, h11, h12, h13, h14, h15, h16, h17, h18⟩ := h
  unfold WB fr
  rw [e0, e1, e2, e3, e4, e5, e6, e7, e8]
  refine ⟨h0, h1, h2, h3, h4, h5, h6, h7, h8, fun i hi => ?_, fun i hi => ?_, fun i hi => ?_, fun i hi hi2 => ?_, fun i hi => ?_, fun i hi => ?_, fun i hi => ?_, fun i hi => ?_, fun i hi => ?_, fun i k hi hk1 hk2 => ?_⟩
  · have := h9 i hi; simp (disch := omega) only [e]; exact this
  · have := h10 i hi; simp (disch := omega) only [e]; exact this
  · have := h11 i hi; simp (disch := omega) only [e]; exact this
  · have := h12 i hi hi2; simp (disch := omega) only [e]; exact this
  · have := h13 i hi; simp (disch := omega) only [e]; exact this
  · have := h14 i hi; simp (disch := omega) only [e]; exact this
  · have := h15 i hi; simp (disch := omega) only [e]; exact this
  · have := h16 i hi; simp (disch := omega) only [e]; exact this
  · have := h17 i hi; simp (disch := omega) only [e]; exact this
  · have := h18 i k hi hk1 hk2; simp (disch := omega) only [e]; exact this
theorem RT.cg {I I' : Nat → SA} {t k base stride : Nat} {A B : SA} (h : RT I t A k base stride) (e1 : I' t = I t) (e2 : I' (t + 1) = I (t + 1)) (hk : k < 9) (hb : ∀ i j, i < nt (A k) → j < stride → base + stride * i + j < 1000) (e : ∀ i, i < 1000 → B i = A i) : RT I' t B k base stride := by
  unfold RT
  rw [e1, e2, e k (by omega)]
  exact ⟨h.1, fun i j hi hj => by rw [e _ (hb i j hi hj)]; exact h.2 i j hi hj⟩
theorem RB.cg {I I' : Nat → SA} {r : Nat} {A B : SA} (h : RB I r A) (w : WB A) (eI : ∀ a, r + 2 ≤ a → a ≤ r + 18 → I' a = I a) (e : ∀ i, i < 1000 → B i = A i) : RB I' r B := by
  have b0 := w.c0.2
  have b1 := w.c1.2
  have b2 := w.c2.2
  have b3 := w.c3.2
  have b4 := w.c4.2
  have b5 := w.c5.2
  have b6 := w.c6.2
  have b7 := w.c7.2
  obtain ⟨h0, h1, h2, h3, h4, h5, h6, h7, h8⟩ := h
  refine ⟨h0.cg (eI _ (by omega) (by omega)) (eI _ (by omega) (by omega)) (by decide) (fun i j hi hj => by omega) e, h1.cg (eI _ (by omega) (by omega)) (eI _ (by omega) (by omega)) (by decide) (fun i j hi hj => by omega) e, h2.cg (eI _ (by omega) (by omega)) (eI _ (by omega) (by omega)) (by decide) (fun i j hi hj => by omega) e, h3.cg (eI _ (by omega) (by omega)) (eI _ (by omega) (by omega)) (by decide) (fun i j hi hj => by omega) e, h4.cg (eI _ (by omega) (by omega)) (eI _ (by omega) (by omega)) (by decide) (fun i j hi hj => by omega) e, h5.cg (eI _ (by omega) (by omega)) (eI _ (by omega) (by omega)) (by decide) (fun i j hi hj => by omega) e, h6.cg (eI _ (by omega) (by omega)) (eI _ (by omega) (by omega)) (by decide) (fun i j hi hj => by omega) e, ?_, fun l l1 l2 => by rw [eI _ (by omega) (by omega), e _ (by omega)]; exact h8 l l1 l2⟩
  unfold RT7
  rw [eI _ (by omega) (by omega), eI _ (by omega) (by omega), e 7 (by decide)]
  refine ⟨h7.1, fun i hi => ?_⟩
  have := h7.2 i hi
  rw [e (176 + 3 * i) (by omega), e (176 + 3 * i + 1) (by omega), e (176 + 3 * i + 2) (by omega)]
  exact this
theorem RD.cg {I I' : Nat → SA} {d : Nat} {A B : SA} (h : RD I d A) (w : WB A) (e1 : I' d = I d) (e2 : I' (d + 1) = I (d + 1)) (e : ∀ i, i < 1000 → B i = A i) : RD I' d B := by
  have b8 := w.c8.2
  unfold RD
  rw [e1, e2, e 8 (by decide)]
  exact ⟨h.1, fun i k hi h1 h2 => by rw [e _ (by omega)]; exact h.2 i k hi h1 h2⟩
theorem RN.cg {I I' : Nat → SA} {r : Nat} {A B : SA} (h : RN I r A) (e1 : I' (r + 21) = I (r + 21)) (e : ∀ k, k < 6 → B (1006 + k) = A (1006 + k)) : RN I' r B := fun k hk => by rw [e1, e k hk]; exact h k hk
theorem RO.cg {I I' : Nat → SA} {r : Nat} {A B : SA} (h : RO I r A) (e1 : I' (r + 22) = I (r + 22)) (e : ∀ k, k < 6 → B (1012 + k) = A (1012 + k)) : RO I' r B := fun k hk => by rw [e1, e k hk]; exact h k hk
theorem RS.cg {I I' : Nat → SA} {r : Nat} {A B : SA} (h : RS I r A) (e1 : I' (r + 23) = I (r + 23)) (e : B 1002 = A 1002) : RS I' r B := fun k hk => by rw [e1, e]; exact h k hk
theorem RG.cg {I I' : Nat → SA} {r : Nat} {A B : SA} (h : RG I r A) (e1 : I' (r + 24) = I (r + 24)) (e : ∀ l, 1 ≤ l → l ≤ 3 → B (1003 + l - 1) = A (1003 + l - 1)) : RG I' r B := fun l h1 h2 => by rw [e1, e l h1 h2]; exact h l h1 h2
theorem RP.cg {I I' : Nat → SA} {r : Nat} {A B : SA} (h : RP I r A) (e1 : I' (r + 26) = I (r + 26)) (e2 : I' (r + 27) = I (r + 27)) (e3 : I' (r + 28) = I (r + 28)) (e : ∀ i, 1018 ≤ i → i < 5940 → ¬ i = 1019 → B i = A i) : RP I' r B := by
  unfold RP RPl
  rw [e1, e2, e3, e 1018 (by decide) (by decide) (by decide)]
  exact ⟨h.1, fun l hl => ⟨by rw [e _ (by omega) (by omega) (by omega)]; exact (h.2 l hl).1, fun k h1 h2 => by rw [e _ (by omega) (by omega) (by omega)]; exact (h.2 l hl).2 k h1 h2⟩⟩
theorem RU.cg {I I' : Nat → SA} {r : Nat} {A B : SA} (h : RU I r A) (e1 : I' (r + 29) = I (r + 29)) (e2 : I' (r + 30) = I (r + 30)) (e0 : B 1019 = A 1019) (e : ∀ i, 5940 ≤ i → i < 6740 → B i = A i) : RU I' r B := by
  unfold RU RUl
  rw [e1, e2, e0]
  exact ⟨h.1, fun i k hi h1 h2 => by rw [e _ (by omega) (by omega)]; exact h.2 i k hi h1 h2⟩
theorem RF.cg {I I' : Nat → SA} {r : Nat} {A B : SA} (h : RF I r A) (e1 : I' r = I r) (e2 : B 1019 = A 1019) (e3 : B 1000 = A 1000) (e4 : B 1001 = A 1001) : RF I' r B := by
  unfold RF; rw [e1, e2, e3, e4]; exact h
theorem isN.up {x : Int32} {lo a b : Nat} (h : isN x lo a) (k : a ≤ b) : isN x lo b := by
  obtain ⟨n, e, h1, h2⟩ := h; exact ⟨n, e, h1, by omega⟩
theorem isN.suc {x : Int32} {a : Nat} (h : isN x 0 a) : isN (x + nI 1) 0 (a + 1) := by
  obtain ⟨n, rfl, h1, h2⟩ := h; exact ⟨n + 1, by rw [nI_add], by omega, by omega⟩
theorem WM.up {A : SA} {a b : Nat} (h : WM A a) (k : a ≤ b) : WM A b := by
  obtain ⟨h1, h2, h3, h4, h5, h6, h7, h8⟩ := h
  exact ⟨h1, h2, h3, h4, fun i hi => (h5 i hi).up k, h6.up k, h7.up k, h8⟩
-- a machine and its row
def MR (r : Nat) : Nat → Prop := fun a => r ≤ a ∧ a < r + 31
def MO (μ : Mem) (r : Nat) (A : SA) (b : Nat) : Prop := SM μ r ∧ Rep (gI μ) r A ∧ WB A ∧ WM A b
theorem sg_abs {s : Int} {n : Nat} (h : n < 2 ^ 31) : (sg s n).toInt.natAbs = n := by
  unfold sg; split
  · rw [nI_toInt h]; omega
  · rw [neg_T h]; omega
theorem sp_add_at {A : SA} {k i : Nat} {a : Int32} (h1 : ¬ i = 1006 + k) (h2 : ¬ i = 1012 + k) : sp_add A k a i = A i := by
  unfold sp_add
  show ua _ _ _ i = A i
  rw [ua_n h1]
  split
  · rw [ua_n h2]
  · rfl
theorem sp_add_v {A : SA} {k : Nat} {a : Int32} : sp_add A k a (1006 + k) = sg ((A (1006 + k)).toInt + a.toInt) (((A (1006 + k)).toInt + a.toInt).natAbs % 10 ^ nt (A (43 + 5 * k))) := ua_s _ _ _
theorem sp_add_o {A : SA} {k : Nat} {a : Int32} (hk : k < 6) : sp_add A k a (1012 + k) = if 10 ^ nt (A (43 + 5 * k)) ≤ ((A (1006 + k)).toInt + a.toInt).natAbs then A (1012 + k) + nI 1 else A (1012 + k) := by
  unfold sp_add
  show ua _ _ _ (1012 + k) = _
  rw [ua_n (by omega)]
  split
  · rw [ua_s]
  · rfl
theorem WM.add {A : SA} {b k : Nat} {a : Int32} (w : WB A) (h : WM A b) (hk : k < nt (A 2)) : WM (sp_add A k a) (b + 1) := by
  have hk6 : k < 6 := by have := w.c2.2; omega
  have c := w.ctr hk
  have ht := ten_lt c.2.2.2.2.2.2.1
  have hp : 0 < 10 ^ nt (A (43 + 5 * k)) := Nat.pow_pos (by decide)
  obtain ⟨h1, h2, h3, h4, h5, h6, h7, h8⟩ := h
  have e : ∀ i, ¬ (1006 ≤ i ∧ i < 1018) → sp_add A k a i = A i := fun i hi => sp_add_at (by omega) (by omega)
  unfold WM
  rw [e 1000 (by decide), e 1001 (by decide), e 1002 (by decide), e 1 (by decide), e 8 (by decide), e 1018 (by decide), e 1019 (by decide)]
  refine ⟨h1, h2, h3, fun j hj => ?_, fun j hj => ?_, h6.up (by omega), h7.up (by omega), fun i q a1 a2 a3 => by rw [e _ (by omega)]; exact h8 i q a1 a2 a3⟩
  · by_cases hjk : j = k
    · subst hjk
      have hm := Nat.mod_lt ((A (1006 + j)).toInt + a.toInt).natAbs hp
      rw [sp_add_v, sg_abs (by omega)]; omega
    · rw [sp_add_at (by omega) (by omega)]; exact h4 j hj
  · by_cases hjk : j = k
    · subst hjk
      rw [sp_add_o hj]
      split
      · exact (h5 j hj).suc
      · exact (h5 j hj).up (by omega)
    · rw [sp_add_at (by omega) (by omega)]; exact (h5 j hj).up (by omega)
theorem x3_addTo {μ : Mem} {r b k : Nat} {A : SA} {a : Int32} (h : MO μ r A b) (hk : k < nt (A 2)) (ha : a.toInt.natAbs < 1000000000) : ∃ μ', F_X3_addTo r (nI k) a μ = some μ' ∧ MO μ' r (sp_add A k a) (b + 1) ∧ Fx (MR r) μ μ' := by
  obtain ⟨s, hr, w, m⟩ := h
  have hc2 := w.c2.2
  have hk6 : k < 6 := by omega
  have c := w.ctr hk
  have hv := m.2.2.2.1 k hk6
  have hat := x6_at (p := 0) s.st2 (hr.n2 w) (by omega) hk (by decide)
  rw [show r + 6 + 1 = r + 7 from rfl, hr.1.2.2.1.2 k 0 hk (by decide), show 43 + 5 * k + 0 = 43 + 5 * k from rfl, c.1] at hat
  have hn : gI μ (r + 21) k = A (1006 + k) := hr.2.2.1 k hk6
  have ho : gI μ (r + 22) k = A (1012 + k) := hr.2.2.2.1 k hk6
  have hT : (A (1006 + k) + a).toInt = (A (1006 + k)).toInt + a.toInt := add_T (by omega) (by omega)
  have hl := l_add s hk6 hat c.2.2.2.2.2.2.1 (sm := A (1006 + k) + a) (size := ((A (1006 + k)).toInt + a.toInt).natAbs) (by omega) (by rw [hT]) (nt (A (43 + 5 * k))) FU 0 (FU_gt (by omega)) (by omega)
  rw [hT, show (10 : Nat) ^ 0 = 1 from rfl] at hl
  have e : F_X3_addTo r (nI k) a μ = L_X3_addTo_41 FU r (nI k) (A (1006 + k) + a) (nI ((A (1006 + k)).toInt + a.toInt).natAbs) (nI 1) (nI 0) μ := by
    by_cases hy : 0 ≤ (A (1006 + k)).toInt + a.toInt
    · have e1 : A (1006 + k) + a = nI ((A (1006 + k)).toInt + a.toInt).natAbs := by
        have := sz_pos (x := A (1006 + k) + a) (by rw [hT]; exact hy)
        rw [hT] at this; exact this
      have e2 : nI 0 ≤ A (1006 + k) + a := by rw [le0_T, hT]; exact hy
      rw [← e1]
      simp (disch := first | assumption | omega) only [q_bl, q_baT, q_bi, q_ba, q_pr, q_ob, q_iT, q_iN, q_it, q_if, q_of, nI_add, pk_mul, pk_sub, nI_leI, nI_ltI, nI_eq, nI_clamp, nI_lt0, nI_eqm, m1_eq, true_or, or_true, not_false_eq_true, m1_lt, m1_nlt, m1_le, m1_nle, b01, b011, q_em, q_m1, n_0, n_1, n_2, n_3, n_4, n_5, n_6, n_7, n_8, n_9, n_10, n_11, n_12, n_14, n_15, n_16, n_20, n_24, n_25, n_32, n_36, n_40, n_41, n_42, n_43, n_45, n_46, n_48, n_57, n_59, n_60, n_73, n_76, n_97, n_99, n_100, n_106, n_109, n_120, n_122, n_136, n_160, n_176, n_200, n_255, n_800, n_1000, n_1001, n_1002, n_1003, n_1006, n_1012, n_1018, n_1019, n_1020, n_1100, n_1140, n_4800, n_4920, n_5940, n_6740, n_20220, q_kI, q_lI, q_nI, q_rI, q_iI, q_jI, q_dI, q_kJ, q_lJ, q_nJ, q_rJ, q_iJ, q_jJ, q_dJ, q_kC, q_lC, q_nC, q_rC, q_jC, q_dC, q_kF, q_lF, q_nF, q_rF, q_jF, q_dF, q_us, q_un, q_ua, F_X3_addTo, B_X3_addTo_33, s.k0, s.r2, s.k21, s.l21, hn]
    · have e1 : -(A (1006 + k) + a) = nI ((A (1006 + k)).toInt + a.toInt).natAbs := by
        have := sz_neg (x := A (1006 + k) + a) (by rw [hT]; omega) (by rw [hT]; omega)
        rw [hT] at this; exact this
      have e2 : ¬ nI 0 ≤ A (1006 + k) + a := by rw [le0_T, hT]; exact hy
      rw [← e1]
      simp (disch := first | assumption | omega) only [q_bl, q_baT, q_bi, q_ba, q_pr, q_ob, q_iT, q_iN, q_it, q_if, q_of, nI_add, pk_mul, pk_sub, nI_leI, nI_ltI, nI_eq, nI_clamp, nI_lt0, nI_eqm, m1_eq, true_or, or_true, not_false_eq_true, m1_lt, m1_nlt, m1_le, m1_nle, b01, b011, q_em, q_m1, n_0, n_1, n_2, n_3, n_4, n_5, n_6, n_7, n_8, n_9, n_10, n_11, n_12, n_14, n_15, n_16, n_20, n_24, n_25, n_32, n_36, n_40, n_41, n_42, n_43, n_45, n_46, n_48, n_57, n_59, n_60, n_73, n_76, n_97, n_99, n_100, n_106, n_109, n_120, n_122, n_136, n_160, n_176, n_200, n_255, n_800, n_1000, n_1001, n_1002, n_1003, n_1006, n_1012, n_1018, n_1019, n_1020, n_1100, n_1140, n_4800, n_4920, n_5940, n_6740, n_20220, q_kI, q_lI, q_nI, q_rI, q_iI, q_jI, q_dI, q_kJ, q_lJ, q_nJ, q_rJ, q_iJ, q_jJ, q_dJ, q_kC, q_lC, q_nC, q_rC, q_jC, q_dC, q_kF, q_lF, q_nF, q_rF, q_jF, q_dF, q_us, q_un, q_ua, F_X3_addTo, B_X3_addTo_33, s.k0, s.r2, s.k21, s.l21, hn]
  refine ⟨_, e.trans hl, ?_, ?_⟩
  · have fx : Fx (MR r) μ (if 10 ^ nt (A (43 + 5 * k)) ≤ ((A (1006 + k)).toInt + a.toInt).natAbs then stI μ (r + 22) k (gI μ (r + 22) k + nI 1) else μ) := by
      split
      · exact Fx.stI ⟨by omega, by omega⟩
      · exact Fx.same
    refine ⟨s.fx (fx.trans (Fx.stI ⟨by omega, by omega⟩)), ?_, w.cg (fun i hi => sp_add_at (by omega) (by omega)), WM.add w m hk⟩
    have eI : ∀ q, ¬ q = r + 21 → ¬ q = r + 22 → gI (stI (if 10 ^ nt (A (43 + 5 * k)) ≤ ((A (1006 + k)).toInt + a.toInt).natAbs then stI μ (r + 22) k (gI μ (r + 22) k + nI 1) else μ) (r + 21) k (if 0 ≤ (A (1006 + k)).toInt + a.toInt then nI (((A (1006 + k)).toInt + a.toInt).natAbs % 10 ^ nt (A (43 + 5 * k))) else -nI (((A (1006 + k)).toInt + a.toInt).natAbs % 10 ^ nt (A (43 + 5 * k))))) q = gI μ q := by
      intro q h1 h2
      rw [q_iI, q_ua h1]
      split
      · rw [q_iI, q_ua h2]
      · rfl
    refine ⟨hr.1.cg w (fun q _ _ => eI q (by omega) (by omega)) (fun i hi => sp_add_at (by omega) (by omega)), hr.2.1.cg w (eI _ (by omega) (by omega)) (eI _ (by omega) (by omega)) (fun i hi => sp_add_at (by omega) (by omega)), fun j hj => ?_, fun j hj => ?_, hr.2.2.2.2.1.cg (eI _ (by omega) (by omega)) (sp_add_at (by omega) (by omega)), hr.2.2.2.2.2.1.cg (eI _ (by omega) (by omega)) (fun l _ _ => sp_add_at (by omega) (by omega)), hr.2.2.2.2.2.2.1.cg (eI _ (by omega) (by omega)) (eI _ (by omega) (by omega)) (eI _ (by omega) (by omega)) (fun i _ _ _ => sp_add_at (by omega) (by omega)), hr.2.2.2.2.2.2.2.1.cg (eI _ (by omega) (by omega)) (eI _ (by omega) (by omega)) (sp_add_at (by omega) (by omega)) (fun i _ _ => sp_add_at (by omega) (by omega)), hr.2.2.2.2.2.2.2.2.cg (eI _ (by omega) (by omega)) (sp_add_at (by omega) (by omega)) (sp_add_at (by omega) (by omega)) (sp_add_at (by omega) (by omega))⟩
    · rw [q_iI]
      by_cases hjk : j = k
      · subst hjk; rw [q_us, sp_add_v]; rfl
      · rw [q_un (by omega), sp_add_at (by omega) (by omega)]
        split
        · rw [q_iI, q_un (by omega)]; exact hr.2.2.1 j hj
        · exact hr.2.2.1 j hj
    · rw [q_iI, q_un (by omega)]
      by_cases hjk : j = k
      · subst hjk; rw [sp_add_o hj]
        split
        · rw [q_iI, q_us, ho]
        · exact ho
      · rw [sp_add_at (by omega) (by omega)]
        split
        · rw [q_iI, q_un (by omega)]; exact hr.2.2.2.1 j hj
        · exact hr.2.2.2.1 j hj
  · refine Fx.trans (μ2 := if 10 ^ nt (A (43 + 5 * k)) ≤ ((A (1006 + k)).toInt + a.toInt).natAbs then stI μ (r + 22) k (gI μ (r + 22) k + nI 1) else μ) ?_ (Fx.stI ⟨by omega, by omega⟩)
    split
    · exact Fx.stI ⟨by omega, by omega⟩
    · exact Fx.same

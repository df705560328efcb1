/-! LAYER 3: what holds between the calls -/
theorem q_prL {α β : Type} (f : Nat → Mem → Option β) (g : α → Mem → Option β) (k : Nat) (μ : Mem) : prs f g (.inl k, μ) = f k μ := of_eq_true (eq_true rfl)
theorem q_prR {α β : Type} (f : Nat → Mem → Option β) (g : α → Mem → Option β) (v : α) (μ : Mem) : prs f g (.inr v, μ) = g v μ := of_eq_true (eq_true rfl)
def BB (A : SA) : Nat := 40 * nt (A 1000) + 40 * nt (A 1001)
/-- the reader's things -/
def RDS (μ : Mem) (d : Nat) : Prop := gK μ d = 5 ∧ gR μ d 0 = d + 1 ∧ gR μ d 8 = d + 2 ∧ gR μ d 9 = d + 3 ∧ gR μ d 10 = d + 4 ∧ gR μ d 15 = d + 5 ∧ gR μ d 16 = d + 23 ∧ gK μ (d + 1) = 101 ∧ gL μ (d + 1) = 1100 ∧ gK μ (d + 2) = 102 ∧ gL μ (d + 2) = 20 ∧ gK μ (d + 3) = 101 ∧ gL μ (d + 3) = 20 ∧ gK μ (d + 4) = 101 ∧ gL μ (d + 4) = 20 ∧ SB μ (d + 5) ∧ SD μ (d + 23)
/-- all things that stand -/
def IS (μ : Mem) (x : Nat) : Prop := gK μ x = 7 ∧ gR μ x 0 = x + 1 ∧ gR μ x 1 = x + 26 ∧ gR μ x 2 = x + 57 ∧ gR μ x 3 = x + 88 ∧ gR μ x 4 = x + 119 ∧ SM μ (x + 26) ∧ SM μ (x + 57) ∧ SM μ (x + 88) ∧ gK μ (x + 119) = 105 ∧ gL μ (x + 119) = 3 ∧ SR μ (x + 120) ∧ RDS μ (x + 1) ∧ gK μ (x + 132) = 102 ∧ gL μ (x + 132) = 1 ∧ gK μ (x + 133) = 104 ∧ gL μ (x + 133) = 1 ∧ x + 134 ≤ gN μ ∧ 23 ≤ x
theorem RDS.fx {P : Nat → Prop} {μ μ' : Mem} {r : Nat} (h : RDS μ r) (f : Fx P μ μ') : RDS μ' r := by unfold RDS SB ST SD; rw [f.1, f.2.1, f.2.2.2.1]; exact h
theorem IS.fx {P : Nat → Prop} {μ μ' : Mem} {x : Nat} (h : IS μ x) (f : Fx P μ μ') : IS μ' x := by
  obtain ⟨h1, h2, h3, h4, h5, h6, h7, h8, h9, h10, h11, h12, h13, h14, h15, h16, h17, h18, h19⟩ := h
  unfold IS
  rw [f.1, f.2.1, f.2.2.2.1, f.2.2.1]
  exact ⟨h1, h2, h3, h4, h5, h6, h7.fx f, h8.fx f, h9.fx f, h10, h11, h12.fx f, h13.fx f, h14, h15, h16, h17, h18, h19⟩
theorem IS.kx {μ : Mem} {x : Nat} (h : IS μ x) : gK μ x = 7 := h.1
theorem IS.r0 {μ : Mem} {x : Nat} (h : IS μ x) : gR μ x 0 = x + 1 := h.2.1
theorem IS.r1 {μ : Mem} {x : Nat} (h : IS μ x) : gR μ x 1 = x + 26 := h.2.2.1
theorem IS.r2 {μ : Mem} {x : Nat} (h : IS μ x) : gR μ x 2 = x + 57 := h.2.2.2.1
theorem IS.r3 {μ : Mem} {x : Nat} (h : IS μ x) : gR μ x 3 = x + 88 := h.2.2.2.2.1
theorem IS.r4 {μ : Mem} {x : Nat} (h : IS μ x) : gR μ x 4 = x + 119 := h.2.2.2.2.2.1
theorem IS.m1 {μ : Mem} {x : Nat} (h : IS μ x) : SM μ (x + 26) := h.2.2.2.2.2.2.1
theorem IS.m2 {μ : Mem} {x : Nat} (h : IS μ x) : SM μ (x + 57) := h.2.2.2.2.2.2.2.1
theorem IS.m3 {μ : Mem} {x : Nat} (h : IS μ x) : SM μ (x + 88) := h.2.2.2.2.2.2.2.2.1
theorem IS.ks {μ : Mem} {x : Nat} (h : IS μ x) : gK μ (x + 119) = 105 := h.2.2.2.2.2.2.2.2.2.1
theorem IS.ls {μ : Mem} {x : Nat} (h : IS μ x) : gL μ (x + 119) = 3 := h.2.2.2.2.2.2.2.2.2.2.1
theorem IS.sr {μ : Mem} {x : Nat} (h : IS μ x) : SR μ (x + 120) := h.2.2.2.2.2.2.2.2.2.2.2.1
theorem IS.rd {μ : Mem} {x : Nat} (h : IS μ x) : RDS μ (x + 1) := h.2.2.2.2.2.2.2.2.2.2.2.2.1
theorem IS.gn {μ : Mem} {x : Nat} (h : IS μ x) : x + 134 ≤ gN μ := h.2.2.2.2.2.2.2.2.2.2.2.2.2.2.2.2.2.1
/-- the saved machines -/
def SL (μ : Mem) (x : Nat) : Prop :=
  (∀ i, i < 3 → (gR μ (x + 119) i = 0 ∧ gI μ (x + 125) i = nI 0) ∨ (x + 134 ≤ gR μ (x + 119) i ∧ gR μ (x + 119) i + 31 ≤ gN μ ∧ gI μ (x + 125) i = nI 1 ∧ ∃ B : SA, MO μ (gR μ (x + 119) i) B (BB B) ∧ ∀ j, j < 6740 → gI μ (x + 124) (6740 * i + j) = B j)) ∧
  ∀ i j, i < 3 → j < 3 → ¬ i = j → ¬ gR μ (x + 119) i = 0 → ¬ gR μ (x + 119) j = 0 → gR μ (x + 119) i + 31 ≤ gR μ (x + 119) j ∨ gR μ (x + 119) j + 31 ≤ gR μ (x + 119) i
/-- the limits of a plugboard's tables -/
def lms : List Nat := [8, 6, 6, 12, 12, 8, 8, 8]
def RLm (I : Nat → SA) (x : Nat) : Prop := ∀ k, k < 8 → I (x + 1 + 5 + 1 + 2 * k) 1 = nI (lms.getD k 0)
/-- the buffers, and the limits of the reader's tables -/
def BN (μ : Mem) (x : Nat) : Prop := ∃ n, n ≤ 1100 ∧ gI μ (x + 1) 1 = nI n ∧ gI μ (x + 120) 7 = nI n ∧ ∀ k, k < n → gI μ (x + 2) k = gI μ (x + 126) k ∧ isN (gI μ (x + 2) k) 0 255
def BF (μ : Mem) (x : Nat) : Prop := BN μ x ∧ RLm (gI μ) x
theorem RLm.eq {I I' : Nat → SA} {x : Nat} (h : RLm I x) (e : ∀ a, x + 7 ≤ a → a < x + 23 → I' a = I a) : RLm I' x := fun k hk => by rw [e _ (by omega) (by omega)]; exact h k hk
/-- the latest error -/
def ER (μ : Mem) (x : Nat) : Prop := gI μ (x + 1) 13 = gI μ (x + 120) 8 ∧ ((gI μ (x + 1) 13 = nI 0 ∧ gI μ (x + 120) 9 = -nI 1) ∨ (¬ gI μ (x + 1) 13 = nI 0 ∧ gI μ (x + 1) 14 = gI μ (x + 120) 9))
def INV (μ : Mem) (x : Nat) (A : SA) : Prop := IS μ x ∧ MO μ (x + 26) A (BB A) ∧ gI μ (x + 121) = A ∧ SL μ x ∧ BF μ x ∧ ER μ x
theorem Rep.eq {I I' : Nat → SA} {r : Nat} {A : SA} (h : Rep I r A) (e : ∀ a, r ≤ a → a < r + 31 → I' a = I a) : Rep I' r A := by
  have e2 : ∀ a, r ≤ a → a < r + 31 → I' a = I a := e
  obtain ⟨h1, h2, h3, h4, h5, h6, h7, h8, h9⟩ := h
  refine ⟨?_, ?_, ?_, ?_, ?_, ?_, ?_, ?_, ?_⟩
  · unfold RB RT RT7; simp (disch := omega) only [e2]; exact h1
  · unfold RD; simp (disch := omega) only [e2]; exact h2
  · unfold RN; simp (disch := omega) only [e2]; exact h3
  · unfold RO; simp (disch := omega) only [e2]; exact h4
  · unfold RS; simp (disch := omega) only [e2]; exact h5
  · unfold RG; simp (disch := omega) only [e2]; exact h6
  · unfold RP RPl; simp (disch := omega) only [e2]; exact h7
  · unfold RU RUl; simp (disch := omega) only [e2]; exact h8
  · unfold RF; simp (disch := omega) only [e2]; exact h9
theorem MO.fx {P : Nat → Prop} {μ μ' : Mem} {r b : Nat} {A : SA} (h : MO μ r A b) (f : Fx P μ μ') (hp : ∀ a, r ≤ a → a < r + 31 → ¬ P a) : MO μ' r A b :=
  ⟨h.1.fx f, h.2.1.eq (fun a h1 h2 => f.I (hp a h1 h2)), h.2.2⟩
/-- what the class's machines may touch -/
def CM (x : Nat) : Nat → Prop := fun a => x + 26 ≤ a ∧ a < x + 134 ∧ ¬ (x + 119 ≤ a ∧ a < x + 132)
/-- what a call of the reference may touch, beside what is kept of it -/
def RK (μ μ' : Mem) (m : Nat) : Prop := Fx (fun a => m ≤ a ∧ a < m + 12) μ μ' ∧ gI μ' (m + 4) = gI μ (m + 4) ∧ gI μ' (m + 5) = gI μ (m + 5) ∧ gI μ' (m + 6) = gI μ (m + 6) ∧ ∀ j, 7 ≤ j → j ≤ 9 → gI μ' m j = gI μ m j
theorem RK.same {μ : Mem} {m : Nat} : RK μ μ m := ⟨Fx.same, rfl, rfl, rfl, fun _ _ _ => rfl⟩
theorem RK.trans {μ1 μ2 μ3 : Mem} {m : Nat} (h : RK μ1 μ2 m) (k : RK μ2 μ3 m) : RK μ1 μ3 m := ⟨h.1.trans k.1, k.2.1.trans h.2.1, k.2.2.1.trans h.2.2.1, k.2.2.2.1.trans h.2.2.2.1, fun j h1 h2 => (k.2.2.2.2 j h1 h2).trans (h.2.2.2.2 j h1 h2)⟩
theorem RK.thr {μ : Mem} {m : Nat} {v : Int32} : RK μ (stI μ m 5 v) m := ⟨Fx.stI ⟨Nat.le_refl _, by omega⟩, by rw [q_iI, q_ua (by omega)], by rw [q_iI, q_ua (by omega)], by rw [q_iI, q_ua (by omega)], fun j h1 h2 => by rw [q_iI, q_un (by omega)]⟩
theorem RK.of {μ μ' : Mem} {m : Nat} {P : Nat → Prop} (f : Fx P μ μ') (hp : ∀ a, P a → a = m + 1 ∨ a = m + 3 ∨ a = m + 8 ∨ a = m + 9 ∨ a = m + 10 ∨ a = m + 11) : RK μ μ' m :=
  ⟨f.mono (fun a ha => by have := hp a ha; exact ⟨by omega, by omega⟩), f.I (fun h => by have := hp _ h; omega), f.I (fun h => by have := hp _ h; omega), f.I (fun h => by have := hp _ h; omega), fun j _ _ => by rw [f.I (a := m) (fun h => by have := hp _ h; omega)]⟩
theorem SL.fx {P : Nat → Prop} {μ μ' : Mem} {x : Nat} (h : SL μ x) (f : Fx P μ μ') (hp : ∀ a, x + 134 ≤ a → ¬ P a) (e1 : gI μ' (x + 124) = gI μ (x + 124)) (e2 : gI μ' (x + 125) = gI μ (x + 125)) : SL μ' x := by
  unfold SL
  rw [f.2.2.2.1, f.2.2.1, e1, e2]
  refine ⟨fun i hi => ?_, h.2⟩
  rcases h.1 i hi with q | ⟨q1, q2, q3, B, q4, q5⟩
  · exact Or.inl q
  · exact Or.inr ⟨q1, q2, q3, B, q4.fx f (fun a h1 _ => hp a (by omega)), q5⟩
/-- a call of the class and a call of the reference over one row and the next -/
theorem INV.step {μ μ1 μ2 : Mem} {x : Nat} {A B : SA} (h : INV μ x A) (f : Fx (CM x) μ μ1) (hm : MO μ1 (x + 26) B (BB B)) (k : RK μ1 μ2 (x + 120)) (hB : gI μ2 (x + 121) = B) : INV μ2 x B := by
  obtain ⟨h1, h2, h3, h4, h5, h6⟩ := h
  have fx : ∀ a, ¬ CM x a → ¬ (x + 120 ≤ a ∧ a < x + 132) → gI μ2 a = gI μ a := fun a a1 a2 => by rw [k.1.I (a := a) (by omega), f.I a1]
  have ex1 : gI μ2 (x + 1) = gI μ (x + 1) := fx _ (fun q => by unfold CM at q; omega) (by omega)
  have ex2 : gI μ2 (x + 2) = gI μ (x + 2) := fx _ (fun q => by unfold CM at q; omega) (by omega)
  have g0 : gI μ1 (x + 120) = gI μ (x + 120) := f.I (fun q => by unfold CM at q; omega)
  have g6 : gI μ2 (x + 126) = gI μ (x + 126) := by rw [show x + 126 = x + 120 + 6 from rfl, k.2.2.2.1, f.I (fun q => by unfold CM at q; omega)]
  have g4 : gI μ2 (x + 124) = gI μ1 (x + 124) := k.2.1
  have g5 : gI μ2 (x + 125) = gI μ1 (x + 125) := k.2.2.1
  refine ⟨(h1.fx f).fx k.1, hm.fx k.1 (fun a a1 a2 => by omega), hB, ?_, ?_, ?_⟩
  · refine (h4.fx f (fun a ha q => by unfold CM at q; omega) (f.I (fun q => by unfold CM at q; omega)) (f.I (fun q => by unfold CM at q; omega))).fx k.1 (fun a ha => by omega) g4 g5
  · obtain ⟨⟨n, n1, n2, n3, n4⟩, hl⟩ := h5
    exact ⟨⟨n, n1, by rw [ex1]; exact n2, by rw [k.2.2.2.2 7 (by decide) (by decide), g0]; exact n3, fun j hj => by rw [ex2, g6]; exact n4 j hj⟩, hl.eq (fun a a1 a2 => fx a (fun q => by unfold CM at q; omega) (by omega))⟩
  · unfold ER
    rw [ex1, k.2.2.2.2 8 (by decide) (by decide), k.2.2.2.2 9 (by decide) (by decide), g0]
    exact h6
/-- in a row of n things -/
def IR (i : Int32) (n : Nat) : Prop := 0 ≤ i.toInt ∧ i.toInt < n
theorem IR.ex {i : Int32} {n : Nat} (h : IR i n) (hn : n < 2 ^ 31) : ∃ k, k < n ∧ i = nI k := ⟨i.toInt.toNat, by have := h.1; have := h.2; omega, by
  rw [nI_z]; have : ((i.toInt.toNat : Nat) : Int) = i.toInt := by have := h.1; omega
  rw [this, zI_of]⟩
theorem IR.no {i : Int32} {n : Nat} (h : ¬ IR i n) (hn : n < 2 ^ 31) : i < nI 0 ∨ (¬ i < nI 0 ∧ ¬ i < nI n) := by
  by_cases h0 : 0 ≤ i.toInt
  · refine Or.inr ⟨by rw [lt0_T]; omega, ?_⟩
    rw [Int32.lt_iff_toInt_lt, nI_toInt hn]
    exact fun e => h ⟨h0, e⟩
  · exact Or.inl (by rw [lt0_T]; omega)
theorem IR.nI {k n : Nat} (hk : k < 2 ^ 31) : IR (nI k) n = (k < n) := propext ⟨fun h => by have := h.2; rw [nI_toInt hk] at this; omega, fun h => ⟨by rw [nI_toInt hk]; omega, by rw [nI_toInt hk]; omega⟩⟩
theorem x9_bt {a lo hi : Int64} {μ : Mem} : F_X9_between a lo hi μ = some (if lo.toInt ≤ a.toInt ∧ a.toInt ≤ hi.toInt then nI 1 else nI 0) := by
  have g1 : (lg_cmp a lo < nI 0) = (a.toInt < lo.toInt) := propext (by rw [show nI 0 = 0 from rfl, lg_cmp_lt, Int64.lt_iff_toInt_lt])
  have g2 : (nI 0 < lg_cmp a hi) = (hi.toInt < a.toInt) := propext (by rw [show nI 0 = 0 from rfl, lg_cmp_gt, Int64.lt_iff_toInt_lt])
  by_cases h1 : a.toInt < lo.toInt
  · rw [if_neg (by omega)]
    simp (disch := first | assumption | omega) only [q_bl, q_baT, q_bi, q_ba, q_pr, q_ob, q_iT, q_iN, q_it, q_if, q_of, nI_add, pk_mul, pk_sub, nI_leI, nI_ltI, nI_eq, nI_clamp, nI_lt0, nI_eqm, m1_eq, true_or, or_true, not_false_eq_true, m1_lt, m1_nlt, m1_le, m1_nle, b01, b011, q_em, q_m1, n_0, n_1, n_2, n_3, n_4, n_5, n_6, n_7, n_8, n_9, n_10, n_11, n_12, n_14, n_15, n_16, n_20, n_24, n_25, n_32, n_36, n_40, n_41, n_42, n_43, n_45, n_46, n_48, n_57, n_59, n_60, n_73, n_76, n_97, n_99, n_100, n_106, n_109, n_120, n_122, n_136, n_160, n_176, n_200, n_255, n_800, n_1000, n_1001, n_1002, n_1003, n_1006, n_1012, n_1018, n_1019, n_1020, n_1100, n_1140, n_4800, n_4920, n_5940, n_6740, n_20220, q_kI, q_lI, q_nI, q_rI, q_iI, q_jI, q_dI, q_kJ, q_lJ, q_nJ, q_rJ, q_iJ, q_jJ, q_dJ, q_kC, q_lC, q_nC, q_rC, q_jC, q_dC, q_kF, q_lF, q_nF, q_rF, q_jF, q_dF, q_us, q_un, q_ua, F_X9_between, g1]
  · by_cases h2 : hi.toInt < a.toInt
    · rw [if_neg (by omega)]
      simp (disch := first | assumption | omega) only [q_bl, q_baT, q_bi, q_ba, q_pr, q_ob, q_iT, q_iN, q_it, q_if, q_of, nI_add, pk_mul, pk_sub, nI_leI, nI_ltI, nI_eq, nI_clamp, nI_lt0, nI_eqm, m1_eq, true_or, or_true, not_false_eq_true, m1_lt, m1_nlt, m1_le, m1_nle, b01, b011, q_em, q_m1, n_0, n_1, n_2, n_3, n_4, n_5, n_6, n_7, n_8, n_9, n_10, n_11, n_12, n_14, n_15, n_16, n_20, n_24, n_25, n_32, n_36, n_40, n_41, n_42, n_43, n_45, n_46, n_48, n_57, n_59, n_60, n_73, n_76, n_97, n_99, n_100, n_106, n_109, n_120, n_122, n_136, n_160, n_176, n_200, n_255, n_800, n_1000, n_1001, n_1002, n_1003, n_1006, n_1012, n_1018, n_1019, n_1020, n_1100, n_1140, n_4800, n_4920, n_5940, n_6740, n_20220, q_kI, q_lI, q_nI, q_rI, q_iI, q_jI, q_dI, q_kJ, q_lJ, q_nJ, q_rJ, q_iJ, q_jJ, q_dJ, q_kC, q_lC, q_nC, q_rC, q_jC, q_dC, q_kF, q_lF, q_nF, q_rF, q_jF, q_dF, q_us, q_un, q_ua, F_X9_between, g1, g2]
    · rw [if_pos (by omega)]
      simp (disch := first | assumption | omega) only [q_bl, q_baT, q_bi, q_ba, q_pr, q_ob, q_iT, q_iN, q_it, q_if, q_of, nI_add, pk_mul, pk_sub, nI_leI, nI_ltI, nI_eq, nI_clamp, nI_lt0, nI_eqm, m1_eq, true_or, or_true, not_false_eq_true, m1_lt, m1_nlt, m1_le, m1_nle, b01, b011, q_em, q_m1, n_0, n_1, n_2, n_3, n_4, n_5, n_6, n_7, n_8, n_9, n_10, n_11, n_12, n_14, n_15, n_16, n_20, n_24, n_25, n_32, n_36, n_40, n_41, n_42, n_43, n_45, n_46, n_48, n_57, n_59, n_60, n_73, n_76, n_97, n_99, n_100, n_106, n_109, n_120, n_122, n_136, n_160, n_176, n_200, n_255, n_800, n_1000, n_1001, n_1002, n_1003, n_1006, n_1012, n_1018, n_1019, n_1020, n_1100, n_1140, n_4800, n_4920, n_5940, n_6740, n_20220, q_kI, q_lI, q_nI, q_rI, q_iI, q_jI, q_dI, q_kJ, q_lJ, q_nJ, q_rJ, q_iJ, q_jJ, q_dJ, q_kC, q_lC, q_nC, q_rC, q_jC, q_dC, q_kF, q_lF, q_nF, q_rF, q_jF, q_dF, q_us, q_un, q_ua, F_X9_between, g1, g2]
theorem x9_btN {i : Int32} {n : Nat} {μ : Mem} (hn : n ≤ 1000000) : F_X9_between i.toInt64 (lN 0) ((nI n - nI 1).toInt64) μ = some (@ite _ (IR i n) (Classical.propDecidable _) (nI 1) (nI 0)) := by
  have h1 : (nI n - nI 1).toInt = (n : Int) - 1 := pk_sub_toInt (by omega) (by decide)
  rw [x9_bt, I64_T, I64_T, h1, lN_toInt (by decide)]
  congr 1
  by_cases h : IR i n
  · rw [if_pos h, if_pos ⟨h.1, by have := h.2; omega⟩]
  · rw [if_neg h, if_neg (fun e => h ⟨e.1, by have := e.2; omega⟩)]

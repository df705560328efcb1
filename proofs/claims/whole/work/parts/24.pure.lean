/-! LAYER 3: what plugboards keep to, told apart; the class's questions -/
theorem WB.c0 {A : SA} (h : WB A) : A 0 = nI (nt (A 0)) ∧ nt (A 0) ≤ 8 := ⟨(h.1.ex (by decide)).1, (h.1.ex (by decide)).2.2⟩
theorem WB.c1 {A : SA} (h : WB A) : A 1 = nI (nt (A 1)) ∧ nt (A 1) ≤ 6 := ⟨(h.2.1.ex (by decide)).1, (h.2.1.ex (by decide)).2.2⟩
theorem WB.c2 {A : SA} (h : WB A) : A 2 = nI (nt (A 2)) ∧ nt (A 2) ≤ 6 := ⟨(h.2.2.1.ex (by decide)).1, (h.2.2.1.ex (by decide)).2.2⟩
theorem WB.c3 {A : SA} (h : WB A) : A 3 = nI (nt (A 3)) ∧ nt (A 3) ≤ 12 := ⟨(h.2.2.2.1.ex (by decide)).1, (h.2.2.2.1.ex (by decide)).2.2⟩
theorem WB.c4 {A : SA} (h : WB A) : A 4 = nI (nt (A 4)) ∧ nt (A 4) ≤ 12 := ⟨(h.2.2.2.2.1.ex (by decide)).1, (h.2.2.2.2.1.ex (by decide)).2.2⟩
theorem WB.c5 {A : SA} (h : WB A) : A 5 = nI (nt (A 5)) ∧ nt (A 5) ≤ 8 := ⟨(h.2.2.2.2.2.1.ex (by decide)).1, (h.2.2.2.2.2.1.ex (by decide)).2.2⟩
theorem WB.c6 {A : SA} (h : WB A) : A 6 = nI (nt (A 6)) ∧ nt (A 6) ≤ 8 := ⟨(h.2.2.2.2.2.2.1.ex (by decide)).1, (h.2.2.2.2.2.2.1.ex (by decide)).2.2⟩
theorem WB.c7 {A : SA} (h : WB A) : A 7 = nI (nt (A 7)) ∧ nt (A 7) ≤ 8 := ⟨(h.2.2.2.2.2.2.2.1.ex (by decide)).1, (h.2.2.2.2.2.2.2.1.ex (by decide)).2.2⟩
theorem WB.c8 {A : SA} (h : WB A) : A 8 = nI (nt (A 8)) ∧ nt (A 8) ≤ 40 := ⟨(h.2.2.2.2.2.2.2.2.1.ex (by decide)).1, (h.2.2.2.2.2.2.2.2.1.ex (by decide)).2.2⟩
theorem WB.fld {A : SA} (h : WB A) {i : Nat} (hi : i < nt (A 0)) : A (9 + 2 * i) = nI (fr A i) ∧ A (9 + 2 * i + 1) = nI (tr A i) ∧ 1 ≤ fr A i ∧ fr A i ≤ tr A i ∧ tr A i ≤ 20 ∧ tr A i ≤ fr A i + 8 := by
  have h1 := h.2.2.2.2.2.2.2.2.2.1 i hi
  have h2 := h1.1.ex (by decide)
  have h3 := h1.2.ex (by omega)
  have h4 : nt (A (9 + 2 * i)) = fr A i := rfl
  have h5 : nt (A (9 + 2 * i + 1)) = tr A i := rfl
  rw [h4] at h2; rw [h5] at h3
  exact ⟨h2.1, h3.1, h2.2.1, h3.2.1, by omega, by omega⟩
theorem WB.sel {A : SA} (h : WB A) {i : Nat} (hi : i < nt (A 1)) : A (25 + 3 * i) = nI (nt (A (25 + 3 * i))) ∧ A (25 + 3 * i + 1) = nI (nt (A (25 + 3 * i + 1))) ∧ A (25 + 3 * i + 2) = nI (nt (A (25 + 3 * i + 2))) ∧ 1 ≤ nt (A (25 + 3 * i)) ∧ nt (A (25 + 3 * i)) ≤ 20 ∧ nt (A (25 + 3 * i + 1)) ≤ 10 ∧ nt (A (25 + 3 * i + 2)) ≤ 1 := by
  have h1 := h.2.2.2.2.2.2.2.2.2.2.1 i hi
  have h2 := h1.1.ex (by decide)
  have h3 := h1.2.1.ex (by decide)
  have h4 := h1.2.2.ex (by decide)
  exact ⟨h2.1, h3.1, h4.1, h2.2.1, h2.2.2, h3.2.2, h4.2.2⟩
theorem WB.ctr {A : SA} (h : WB A) {i : Nat} (hi : i < nt (A 2)) : A (43 + 5 * i) = nI (nt (A (43 + 5 * i))) ∧ A (43 + 5 * i + 1) = nI (nt (A (43 + 5 * i + 1))) ∧ A (43 + 5 * i + 2) = nI (nt (A (43 + 5 * i + 2))) ∧ (A (43 + 5 * i + 3) = -nI 1 ∨ (A (43 + 5 * i + 3) = nI (nt (A (43 + 5 * i + 3))) ∧ nt (A (43 + 5 * i + 3)) ≤ 5 ∧ nt (A (43 + 5 * i + 3)) < nt (A 1))) ∧ A (43 + 5 * i + 4) = nI (nt (A (43 + 5 * i + 4))) ∧ 1 ≤ nt (A (43 + 5 * i)) ∧ nt (A (43 + 5 * i)) ≤ 9 ∧ nt (A (43 + 5 * i + 1)) < nt (A 0) ∧ nt (A (43 + 5 * i + 2)) ≤ 2 ∧ nt (A (43 + 5 * i + 4)) ≤ 1 := by
  have h1 := h.2.2.2.2.2.2.2.2.2.2.2.1 i hi
  have h2 := h1.1.ex (by decide)
  have h3 := h1.2.1.1.ex (by decide)
  have h4 := h1.2.2.1.ex (by decide)
  have h6 := h1.2.2.2.2.ex (by decide)
  refine ⟨h2.1, h3.1, h4.1, ?_, h6.1, h2.2.1, h2.2.2, h1.2.1.2, h4.2.2, h6.2.2⟩
  rcases h1.2.2.2.1 with h5 | h5
  · exact Or.inl h5
  · exact Or.inr ⟨(h5.1.ex (by decide)).1, (h5.1.ex (by decide)).2.2, h5.2⟩
theorem WB.ctl {A : SA} (h : WB A) {l : Nat} (h1 : 1 ≤ l) (h2 : l ≤ 3) : A (73 + l - 1) = -nI 1 ∨ (A (73 + l - 1) = nI (nt (A (73 + l - 1))) ∧ nt (A (73 + l - 1)) < nt (A 0) ∧ nt (A (73 + l - 1)) ≤ 7) := by
  rcases h.2.2.2.2.2.2.2.2.2.2.2.2.1 l h1 h2 with h5 | h5
  · exact Or.inl h5
  · exact Or.inr ⟨(h5.1.ex (by decide)).1, h5.2, (h5.1.ex (by decide)).2.2⟩
theorem WB.lst {A : SA} (h : WB A) {i : Nat} (hi : i < nt (A 3)) : A (76 + 2 * i) = nI (nt (A (76 + 2 * i))) ∧ A (76 + 2 * i + 1) = nI (nt (A (76 + 2 * i + 1))) ∧ nt (A (76 + 2 * i)) < nt (A 0) ∧ 1 ≤ nt (A (76 + 2 * i + 1)) ∧ nt (A (76 + 2 * i + 1)) ≤ 40 := by
  have h1 := h.2.2.2.2.2.2.2.2.2.2.2.2.2.1 i hi
  exact ⟨(h1.1.1.ex (by decide)).1, (h1.2.ex (by decide)).1, h1.1.2, (h1.2.ex (by decide)).2.1, (h1.2.ex (by decide)).2.2⟩
theorem WB.tot {A : SA} (h : WB A) {i : Nat} (hi : i < nt (A 4)) : A (100 + 3 * i) = nI (nt (A (100 + 3 * i))) ∧ A (100 + 3 * i + 1) = nI (nt (A (100 + 3 * i + 1))) ∧ A (100 + 3 * i + 2) = nI (nt (A (100 + 3 * i + 2))) ∧ nt (A (100 + 3 * i)) ≤ 3 ∧ nt (A (100 + 3 * i + 1)) < nt (A 2) ∧ 1 ≤ nt (A (100 + 3 * i + 2)) ∧ nt (A (100 + 3 * i + 2)) ≤ 40 := by
  have h1 := h.2.2.2.2.2.2.2.2.2.2.2.2.2.2.1 i hi
  exact ⟨(h1.1.ex (by decide)).1, (h1.2.1.1.ex (by decide)).1, (h1.2.2.ex (by decide)).1, (h1.1.ex (by decide)).2.2, h1.2.1.2, (h1.2.2.ex (by decide)).2.1, (h1.2.2.ex (by decide)).2.2⟩
theorem WB.rol {A : SA} (h : WB A) {i : Nat} (hi : i < nt (A 5)) : A (136 + 3 * i) = nI (nt (A (136 + 3 * i))) ∧ A (136 + 3 * i + 1) = nI (nt (A (136 + 3 * i + 1))) ∧ A (136 + 3 * i + 2) = nI (nt (A (136 + 3 * i + 2))) ∧ nt (A (136 + 3 * i)) ≤ 3 ∧ nt (A (136 + 3 * i + 1)) < nt (A 2) ∧ nt (A (136 + 3 * i + 2)) < nt (A 2) := by
  have h1 := h.2.2.2.2.2.2.2.2.2.2.2.2.2.2.2.1 i hi
  exact ⟨(h1.1.ex (by decide)).1, (h1.2.1.1.ex (by decide)).1, (h1.2.2.1.ex (by decide)).1, (h1.1.ex (by decide)).2.2, h1.2.1.2, h1.2.2.2⟩
theorem WB.clr {A : SA} (h : WB A) {i : Nat} (hi : i < nt (A 6)) : A (160 + 2 * i) = nI (nt (A (160 + 2 * i))) ∧ A (160 + 2 * i + 1) = nI (nt (A (160 + 2 * i + 1))) ∧ nt (A (160 + 2 * i)) ≤ 3 ∧ nt (A (160 + 2 * i + 1)) < nt (A 2) := by
  have h1 := h.2.2.2.2.2.2.2.2.2.2.2.2.2.2.2.2.1 i hi
  exact ⟨(h1.1.ex (by decide)).1, (h1.2.1.ex (by decide)).1, (h1.1.ex (by decide)).2.2, h1.2.2⟩
theorem WB.pun {A : SA} (h : WB A) {i : Nat} (hi : i < nt (A 7)) : A (176 + 3 * i) = nI (nt (A (176 + 3 * i))) ∧ A (176 + 3 * i + 1) = nI (nt (A (176 + 3 * i + 1))) ∧ A (176 + 3 * i + 2) = nI (nt (A (176 + 3 * i + 2))) ∧ nt (A (176 + 3 * i)) ≤ 3 ∧ nt (A (176 + 3 * i + 1)) ≤ 13 ∧ ((nt (A (176 + 3 * i + 1)) < 8 ∧ nt (A (176 + 3 * i + 1)) < nt (A 0)) ∨ (8 ≤ nt (A (176 + 3 * i + 1)) ∧ nt (A (176 + 3 * i + 1)) - 8 < nt (A 2))) ∧ 1 ≤ nt (A (176 + 3 * i + 2)) ∧ nt (A (176 + 3 * i + 2)) ≤ 20 := by
  have h1 := h.2.2.2.2.2.2.2.2.2.2.2.2.2.2.2.2.2.1 i hi
  exact ⟨(h1.1.ex (by decide)).1, (h1.2.1.1.ex (by decide)).1, (h1.2.2.ex (by decide)).1, (h1.1.ex (by decide)).2.2, (h1.2.1.1.ex (by decide)).2.2, h1.2.1.2, (h1.2.2.ex (by decide)).2.1, (h1.2.2.ex (by decide)).2.2⟩
theorem WB.lc {A : SA} (h : WB A) {i k : Nat} (hi : i < nt (A 8)) (h1 : 1 ≤ k) (h2 : k ≤ 20) : lc (A (200 + 20 * i + k - 1)) := h.2.2.2.2.2.2.2.2.2.2.2.2.2.2.2.2.2.2 i k hi h1 h2
-- codes
theorem lc_num : ∀ d, d < 10 → ((if nI d < nI 99 then nI d else nI d - nI 100) = nI (dz (nI d)) ∧ dz (nI d) < 10 ∧ ¬ nI d = -nI 1 ∧ ¬ nI d = nI 99 ∧ pc (nI d) = nI (48 + dz (nI d)) ∧ ¬ nI 99 ≤ nI d) := by decide +kernel
theorem lc_numx : ∀ d, d < 10 → ((if nI (100 + d) < nI 99 then nI (100 + d) else nI (100 + d) - nI 100) = nI (dz (nI (100 + d))) ∧ dz (nI (100 + d)) < 10 ∧ ¬ nI (100 + d) = -nI 1 ∧ ¬ nI (100 + d) = nI 99 ∧ pc (nI (100 + d)) = nI (48 + dz (nI (100 + d))) ∧ nI 99 ≤ nI (100 + d)) := by decide +kernel
theorem lc.dig {c : Int32} (h : lc c) : ((if c < nI 99 then c else c - nI 100) = -nI 1 ∧ (c = -nI 1 ∨ c = nI 99) ∧ dz c = 0 ∧ pc c = nI 32) ∨ ((if c < nI 99 then c else c - nI 100) = nI (dz c) ∧ dz c < 10 ∧ ¬ c = -nI 1 ∧ ¬ c = nI 99 ∧ pc c = nI (48 + dz c)) := by
  rcases h with rfl | rfl | ⟨d, hd, rfl⟩ | ⟨d, hd, rfl⟩
  · exact Or.inl (by decide +kernel)
  · exact Or.inl (by decide +kernel)
  · obtain ⟨a, b, c, d, e, f⟩ := lc_num d hd; exact Or.inr ⟨a, b, c, d, e⟩
  · obtain ⟨a, b, c, d, e, f⟩ := lc_numx d hd; exact Or.inr ⟨a, b, c, d, e⟩
theorem lc.dz {c : Int32} (h : lc c) : dz c < 10 := by
  rcases h.dig with ⟨_, _, h, _⟩ | ⟨_, h, _⟩ <;> omega
theorem le_nlt {a b : Int32} : (¬ a < b) = (b ≤ a) := propext (by rw [Int32.lt_iff_toInt_lt, Int32.le_iff_toInt_le]; omega)
-- values
theorem valr_lt {A : SA} {card : Nat} : ∀ (n c v j : Nat), (∀ k, c ≤ k → k < c + n → dz (A (200 + 20 * card + k - 1)) < 10) → v < 10 ^ j → valr A card c n v < 10 ^ (j + n) := by
  intro n
  induction n with
  | zero => intro c v j _ hv; exact hv
  | succ n ih =>
    intro c v j hd hv
    have h1 := hd c (Nat.le_refl _) (by omega)
    have := ih (c + 1) (v * 10 + dz (A (200 + 20 * card + c - 1))) (j + 1) (fun k a b => hd k (by omega) (by omega)) (by rw [Nat.pow_succ]; omega)
    rw [show j + (n + 1) = j + 1 + n from by omega]
    exact this
theorem sp_val_lt {A : SA} {card f : Nat} (h : WB A) (hc : card < nt (A 8)) (hf : f < nt (A 0)) : sp_val A card f < 1000000000 := by
  obtain ⟨h1, h2, h3, h4, h5, h6⟩ := h.fld hf
  have := valr_lt (A := A) (card := card) (tr A f + 1 - fr A f) (fr A f) 0 0 (fun k a b => (h.lc hc (by omega) (by omega)).dz) (by decide)
  have h9 : (10 : Nat) ^ (0 + (tr A f + 1 - fr A f)) ≤ 10 ^ 9 := Nat.pow_le_pow_right (by decide) (by omega)
  exact Nat.lt_of_lt_of_le this h9
-- the class's rows
theorem RBD.fld {I : Nat → SA} {r : Nat} {A : SA} (h : RBD I r A) (w : WB A) {i : Nat} (hi : i < nt (A 0)) : I (r + 3) (i * 5 + 0) = nI (fr A i) ∧ I (r + 3) (i * 5 + 1) = nI (tr A i) :=
  ⟨(h.1.1.2 i 0 hi (by decide)).trans (w.fld hi).1, (h.1.1.2 i 1 hi (by decide)).trans (w.fld hi).2.1⟩
theorem RBD.n0 {I : Nat → SA} {r : Nat} {A : SA} (h : RBD I r A) (w : WB A) : I (r + 2) 2 = nI (nt (A 0)) := h.1.1.1.trans w.c0.1
theorem RBD.n1 {I : Nat → SA} {r : Nat} {A : SA} (h : RBD I r A) (w : WB A) : I (r + 4) 2 = nI (nt (A 1)) := h.1.2.1.1.trans w.c1.1
theorem RBD.n2 {I : Nat → SA} {r : Nat} {A : SA} (h : RBD I r A) (w : WB A) : I (r + 6) 2 = nI (nt (A 2)) := h.1.2.2.1.1.trans w.c2.1
theorem RBD.n3 {I : Nat → SA} {r : Nat} {A : SA} (h : RBD I r A) (w : WB A) : I (r + 8) 2 = nI (nt (A 3)) := h.1.2.2.2.1.1.trans w.c3.1
theorem RBD.n4 {I : Nat → SA} {r : Nat} {A : SA} (h : RBD I r A) (w : WB A) : I (r + 10) 2 = nI (nt (A 4)) := h.1.2.2.2.2.1.1.trans w.c4.1
theorem RBD.n5 {I : Nat → SA} {r : Nat} {A : SA} (h : RBD I r A) (w : WB A) : I (r + 12) 2 = nI (nt (A 5)) := h.1.2.2.2.2.2.1.1.trans w.c5.1
theorem RBD.n6 {I : Nat → SA} {r : Nat} {A : SA} (h : RBD I r A) (w : WB A) : I (r + 14) 2 = nI (nt (A 6)) := h.1.2.2.2.2.2.2.1.1.trans w.c6.1
theorem RBD.n7 {I : Nat → SA} {r : Nat} {A : SA} (h : RBD I r A) (w : WB A) : I (r + 16) 2 = nI (nt (A 7)) := h.1.2.2.2.2.2.2.2.1.1.trans w.c7.1
theorem RBD.n8 {I : Nat → SA} {r : Nat} {A : SA} (h : RBD I r A) (w : WB A) : I (r + 19) 1 = nI (nt (A 8)) := h.2.1.trans w.c8.1
theorem RBD.code {μ : Mem} {r : Nat} {A : SA} (s : SM μ r) (h : RBD (gI μ) r A) (w : WB A) {i k : Nat} (hi : i < nt (A 8)) (h1 : 1 ≤ k) (h2 : k ≤ 20) : F_X2_codeAt (r + 19) (nI i) (nI k) μ = some (A (200 + 20 * i + k - 1)) := by
  rw [x2_codeAt s.sd (h.n8 w) w.c8.2 hi h1 h2]
  exact congrArg some (h.2.2 i k hi h1 h2)
theorem l_val {μ : Mem} {r card to : Nat} {A : SA} (s : SM μ r) (h : RBD (gI μ) r A) (w : WB A) (hc : card < nt (A 8)) (ht : to ≤ 20) : ∀ (m n c v : Nat), m < n → c + m = to + 1 → 1 ≤ c → L_X3_value_30 μ n r (nI card) (nI to) (nI v) (nI c) = some (nI (valr A card c m v)) := by
  intro m
  induction m with
  | zero =>
    intro n c v hn he h1
    obtain ⟨n, rfl⟩ : ∃ k, n = k + 1 := ⟨n - 1, by omega⟩
    simp (disch := first | assumption | omega) only [q_bl, q_baT, q_bi, q_ba, q_pr, q_ob, q_iT, q_iN, q_it, q_if, q_of, nI_add, pk_mul, pk_sub, nI_leI, nI_ltI, nI_eq, nI_clamp, nI_lt0, nI_eqm, m1_eq, true_or, or_true, not_false_eq_true, m1_lt, m1_nlt, m1_le, m1_nle, b01, b011, q_em, q_m1, n_0, n_1, n_2, n_3, n_4, n_5, n_6, n_7, n_8, n_9, n_10, n_11, n_12, n_14, n_15, n_16, n_20, n_24, n_25, n_32, n_36, n_40, n_41, n_42, n_43, n_45, n_46, n_48, n_57, n_59, n_60, n_73, n_76, n_97, n_99, n_100, n_106, n_109, n_120, n_122, n_136, n_160, n_176, n_200, n_255, n_800, n_1000, n_1001, n_1002, n_1003, n_1006, n_1012, n_1018, n_1019, n_1020, n_1100, n_1140, n_4800, n_4920, n_5940, n_6740, n_20220, q_kI, q_lI, q_nI, q_rI, q_iI, q_jI, q_dI, q_kJ, q_lJ, q_nJ, q_rJ, q_iJ, q_jJ, q_dJ, q_kC, q_lC, q_nC, q_rC, q_jC, q_dC, q_kF, q_lF, q_nF, q_rF, q_jF, q_dF, q_us, q_un, q_ua, L_X3_value_30, B_X3_value_30, valr]
  | succ m ih =>
    intro n c v hn he h1
    obtain ⟨n, rfl⟩ : ∃ k, n = k + 1 := ⟨n - 1, by omega⟩
    have hk := h.code s w hc h1 (show c ≤ 20 by omega)
    have := ih n (c + 1) (v * 10 + dz (A (200 + 20 * card + c - 1))) (by omega) (by omega) (by omega)
    rcases (w.lc hc h1 (show c ≤ 20 by omega)).dig with ⟨d1, d2, d3, d4⟩ | ⟨d1, d2, d3, d4, d5⟩
    · rw [d3] at this
      simp (disch := first | assumption | omega) only [q_bl, q_baT, q_bi, q_ba, q_pr, q_ob, q_iT, q_iN, q_it, q_if, q_of, nI_add, pk_mul, pk_sub, nI_leI, nI_ltI, nI_eq, nI_clamp, nI_lt0, nI_eqm, m1_eq, true_or, or_true, not_false_eq_true, m1_lt, m1_nlt, m1_le, m1_nle, b01, b011, q_em, q_m1, n_0, n_1, n_2, n_3, n_4, n_5, n_6, n_7, n_8, n_9, n_10, n_11, n_12, n_14, n_15, n_16, n_20, n_24, n_25, n_32, n_36, n_40, n_41, n_42, n_43, n_45, n_46, n_48, n_57, n_59, n_60, n_73, n_76, n_97, n_99, n_100, n_106, n_109, n_120, n_122, n_136, n_160, n_176, n_200, n_255, n_800, n_1000, n_1001, n_1002, n_1003, n_1006, n_1012, n_1018, n_1019, n_1020, n_1100, n_1140, n_4800, n_4920, n_5940, n_6740, n_20220, q_kI, q_lI, q_nI, q_rI, q_iI, q_jI, q_dI, q_kJ, q_lJ, q_nJ, q_rJ, q_iJ, q_jJ, q_dJ, q_kC, q_lC, q_nC, q_rC, q_jC, q_dC, q_kF, q_lF, q_nF, q_rF, q_jF, q_dF, q_us, q_un, q_ua, L_X3_value_30, B_X3_value_30, B_X3_value_68, valr, hk, x2_digitOf, d1, d3, this, s.k0, s.r1, s.k19]
    · simp (disch := first | assumption | omega) only [q_bl, q_baT, q_bi, q_ba, q_pr, q_ob, q_iT, q_iN, q_it, q_if, q_of, nI_add, pk_mul, pk_sub, nI_leI, nI_ltI, nI_eq, nI_clamp, nI_lt0, nI_eqm, m1_eq, true_or, or_true, not_false_eq_true, m1_lt, m1_nlt, m1_le, m1_nle, b01, b011, q_em, q_m1, n_0, n_1, n_2, n_3, n_4, n_5, n_6, n_7, n_8, n_9, n_10, n_11, n_12, n_14, n_15, n_16, n_20, n_24, n_25, n_32, n_36, n_40, n_41, n_42, n_43, n_45, n_46, n_48, n_57, n_59, n_60, n_73, n_76, n_97, n_99, n_100, n_106, n_109, n_120, n_122, n_136, n_160, n_176, n_200, n_255, n_800, n_1000, n_1001, n_1002, n_1003, n_1006, n_1012, n_1018, n_1019, n_1020, n_1100, n_1140, n_4800, n_4920, n_5940, n_6740, n_20220, q_kI, q_lI, q_nI, q_rI, q_iI, q_jI, q_dI, q_kJ, q_lJ, q_nJ, q_rJ, q_iJ, q_jJ, q_dJ, q_kC, q_lC, q_nC, q_rC, q_jC, q_dC, q_kF, q_lF, q_nF, q_rF, q_jF, q_dF, q_us, q_un, q_ua, L_X3_value_30, B_X3_value_30, B_X3_value_68, valr, hk, x2_digitOf, d1, this, s.k0, s.r1, s.k19]
theorem x3_value {μ : Mem} {r card f : Nat} {A : SA} (s : SM μ r) (h : RBD (gI μ) r A) (w : WB A) (hc : card < nt (A 8)) (hf : f < nt (A 0)) : F_X3_value r (nI card) (nI f) μ = some (nI (sp_val A card f)) := by
  obtain ⟨h1, h2, h3, h4, h5, h6⟩ := w.fld hf
  have hb := w.c0.2
  have e0 := x6_at (p := 0) s.st0 (h.n0 w) (by omega) hf (by decide)
  have e1 := x6_at (p := 1) s.st0 (h.n0 w) (by omega) hf (by decide)
  rw [show r + 2 + 1 = r + 3 from rfl, (h.fld w hf).1] at e0
  rw [show r + 2 + 1 = r + 3 from rfl, (h.fld w hf).2] at e1
  have := l_val s h w hc h5 (tr A f + 1 - fr A f) FU (fr A f) 0 (FU_gt (by omega)) (by omega) h3
  simp (disch := first | assumption | omega) only [q_bl, q_baT, q_bi, q_ba, q_pr, q_ob, q_iT, q_iN, q_it, q_if, q_of, nI_add, pk_mul, pk_sub, nI_leI, nI_ltI, nI_eq, nI_clamp, nI_lt0, nI_eqm, m1_eq, true_or, or_true, not_false_eq_true, m1_lt, m1_nlt, m1_le, m1_nle, b01, b011, q_em, q_m1, n_0, n_1, n_2, n_3, n_4, n_5, n_6, n_7, n_8, n_9, n_10, n_11, n_12, n_14, n_15, n_16, n_20, n_24, n_25, n_32, n_36, n_40, n_41, n_42, n_43, n_45, n_46, n_48, n_57, n_59, n_60, n_73, n_76, n_97, n_99, n_100, n_106, n_109, n_120, n_122, n_136, n_160, n_176, n_200, n_255, n_800, n_1000, n_1001, n_1002, n_1003, n_1006, n_1012, n_1018, n_1019, n_1020, n_1100, n_1140, n_4800, n_4920, n_5940, n_6740, n_20220, q_kI, q_lI, q_nI, q_rI, q_iI, q_jI, q_dI, q_kJ, q_lJ, q_nJ, q_rJ, q_iJ, q_jJ, q_dJ, q_kC, q_lC, q_nC, q_rC, q_jC, q_dC, q_kF, q_lF, q_nF, q_rF, q_jF, q_dF, q_us, q_un, q_ua, F_X3_value, s.k0, s.r0, s.k1, s.b0, s.k2, e0, e1, this, sp_val]
theorem x3_signed {μ : Mem} {r card f : Nat} {A : SA} (s : SM μ r) (h : RBD (gI μ) r A) (w : WB A) (hc : card < nt (A 8)) (hf : f < nt (A 0)) : F_X3_signedValue r (nI card) (nI f) μ = some (sp_sval A card f) := by
  obtain ⟨h1, h2, h3, h4, h5, h6⟩ := w.fld hf
  have hb := w.c0.2
  have e1 := x6_at (p := 1) s.st0 (h.n0 w) (by omega) hf (by decide)
  rw [show r + 2 + 1 = r + 3 from rfl, (h.fld w hf).2] at e1
  have hv := x3_value s h w hc hf
  have hk := h.code s w hc (show 1 ≤ tr A f by omega) h5
  by_cases hx : nI 99 ≤ A (200 + 20 * card + tr A f - 1)
  · have hy : ¬ A (200 + 20 * card + tr A f - 1) < nI 99 := le_nlt ▸ hx
    simp (disch := first | assumption | omega) only [q_bl, q_baT, q_bi, q_ba, q_pr, q_ob, q_iT, q_iN, q_it, q_if, q_of, nI_add, pk_mul, pk_sub, nI_leI, nI_ltI, nI_eq, nI_clamp, nI_lt0, nI_eqm, m1_eq, true_or, or_true, not_false_eq_true, m1_lt, m1_nlt, m1_le, m1_nle, b01, b011, q_em, q_m1, n_0, n_1, n_2, n_3, n_4, n_5, n_6, n_7, n_8, n_9, n_10, n_11, n_12, n_14, n_15, n_16, n_20, n_24, n_25, n_32, n_36, n_40, n_41, n_42, n_43, n_45, n_46, n_48, n_57, n_59, n_60, n_73, n_76, n_97, n_99, n_100, n_106, n_109, n_120, n_122, n_136, n_160, n_176, n_200, n_255, n_800, n_1000, n_1001, n_1002, n_1003, n_1006, n_1012, n_1018, n_1019, n_1020, n_1100, n_1140, n_4800, n_4920, n_5940, n_6740, n_20220, q_kI, q_lI, q_nI, q_rI, q_iI, q_jI, q_dI, q_kJ, q_lJ, q_nJ, q_rJ, q_iJ, q_jJ, q_dJ, q_kC, q_lC, q_nC, q_rC, q_jC, q_dC, q_kF, q_lF, q_nF, q_rF, q_jF, q_dF, q_us, q_un, q_ua, F_X3_signedValue, s.k0, s.r0, s.k1, s.b0, s.k2, s.r1, s.k19, e1, hv, hk, x2_hasX, sp_sval]
  · have hy : A (200 + 20 * card + tr A f - 1) < nI 99 := Decidable.of_not_not (fun e => hx (le_nlt ▸ e))
    simp (disch := first | assumption | omega) only [q_bl, q_baT, q_bi, q_ba, q_pr, q_ob, q_iT, q_iN, q_it, q_if, q_of, nI_add, pk_mul, pk_sub, nI_leI, nI_ltI, nI_eq, nI_clamp, nI_lt0, nI_eqm, m1_eq, true_or, or_true, not_false_eq_true, m1_lt, m1_nlt, m1_le, m1_nle, b01, b011, q_em, q_m1, n_0, n_1, n_2, n_3, n_4, n_5, n_6, n_7, n_8, n_9, n_10, n_11, n_12, n_14, n_15, n_16, n_20, n_24, n_25, n_32, n_36, n_40, n_41, n_42, n_43, n_45, n_46, n_48, n_57, n_59, n_60, n_73, n_76, n_97, n_99, n_100, n_106, n_109, n_120, n_122, n_136, n_160, n_176, n_200, n_255, n_800, n_1000, n_1001, n_1002, n_1003, n_1006, n_1012, n_1018, n_1019, n_1020, n_1100, n_1140, n_4800, n_4920, n_5940, n_6740, n_20220, q_kI, q_lI, q_nI, q_rI, q_iI, q_jI, q_dI, q_kJ, q_lJ, q_nJ, q_rJ, q_iJ, q_jJ, q_dJ, q_kC, q_lC, q_nC, q_rC, q_jC, q_dC, q_kF, q_lF, q_nF, q_rF, q_jF, q_dF, q_us, q_un, q_ua, F_X3_signedValue, s.k0, s.r0, s.k1, s.b0, s.k2, s.r1, s.k19, e1, hv, hk, x2_hasX, sp_sval]
theorem l_brk {μ : Mem} {r card : Nat} {A : SA} (s : SM μ r) (h : RBD (gI μ) r A) (w : WB A) (hc : card < nt (A 8)) (h0 : 0 < card) : ∀ (l n : Nat), l < n → l ≤ 3 → L_X3_levelOfBreak_9 μ n r (nI card) (nI l) = some (nI (brk A card l)) := by
  intro l
  have hb := w.c8.2
  induction l with
  | zero =>
    intro n hn _
    obtain ⟨n, rfl⟩ : ∃ k, n = k + 1 := ⟨n - 1, by omega⟩
    simp (disch := first | assumption | omega) only [q_bl, q_baT, q_bi, q_ba, q_pr, q_ob, q_iT, q_iN, q_it, q_if, q_of, nI_add, pk_mul, pk_sub, nI_leI, nI_ltI, nI_eq, nI_clamp, nI_lt0, nI_eqm, m1_eq, true_or, or_true, not_false_eq_true, m1_lt, m1_nlt, m1_le, m1_nle, b01, b011, q_em, q_m1, n_0, n_1, n_2, n_3, n_4, n_5, n_6, n_7, n_8, n_9, n_10, n_11, n_12, n_14, n_15, n_16, n_20, n_24, n_25, n_32, n_36, n_40, n_41, n_42, n_43, n_45, n_46, n_48, n_57, n_59, n_60, n_73, n_76, n_97, n_99, n_100, n_106, n_109, n_120, n_122, n_136, n_160, n_176, n_200, n_255, n_800, n_1000, n_1001, n_1002, n_1003, n_1006, n_1012, n_1018, n_1019, n_1020, n_1100, n_1140, n_4800, n_4920, n_5940, n_6740, n_20220, q_kI, q_lI, q_nI, q_rI, q_iI, q_jI, q_dI, q_kJ, q_lJ, q_nJ, q_rJ, q_iJ, q_jJ, q_dJ, q_kC, q_lC, q_nC, q_rC, q_jC, q_dC, q_kF, q_lF, q_nF, q_rF, q_jF, q_dF, q_us, q_un, q_ua, L_X3_levelOfBreak_9, B_X3_levelOfBreak_9, brk]
  | succ l ih =>
    intro n hn hl
    obtain ⟨n, rfl⟩ : ∃ k, n = k + 1 := ⟨n - 1, by omega⟩
    have hk := x1_control s.sb (show 1 ≤ l + 1 by omega) hl
    rw [show r + 1 + 17 = r + 18 from rfl, h.1.2.2.2.2.2.2.2.2 (l + 1) (by omega) hl] at hk
    have := ih n (by omega) (by omega)
    have hm : nI (l + 1) + -nI 1 = nI l := pk_m1 l
    rcases w.ctl (show 1 ≤ l + 1 by omega) hl with e | ⟨e, e2, e3⟩
    · rw [e] at hk
      simp (disch := first | assumption | omega) only [q_bl, q_baT, q_bi, q_ba, q_pr, q_ob, q_iT, q_iN, q_it, q_if, q_of, nI_add, pk_mul, pk_sub, nI_leI, nI_ltI, nI_eq, nI_clamp, nI_lt0, nI_eqm, m1_eq, true_or, or_true, not_false_eq_true, m1_lt, m1_nlt, m1_le, m1_nle, b01, b011, q_em, q_m1, n_0, n_1, n_2, n_3, n_4, n_5, n_6, n_7, n_8, n_9, n_10, n_11, n_12, n_14, n_15, n_16, n_20, n_24, n_25, n_32, n_36, n_40, n_41, n_42, n_43, n_45, n_46, n_48, n_57, n_59, n_60, n_73, n_76, n_97, n_99, n_100, n_106, n_109, n_120, n_122, n_136, n_160, n_176, n_200, n_255, n_800, n_1000, n_1001, n_1002, n_1003, n_1006, n_1012, n_1018, n_1019, n_1020, n_1100, n_1140, n_4800, n_4920, n_5940, n_6740, n_20220, q_kI, q_lI, q_nI, q_rI, q_iI, q_jI, q_dI, q_kJ, q_lJ, q_nJ, q_rJ, q_iJ, q_jJ, q_dJ, q_kC, q_lC, q_nC, q_rC, q_jC, q_dC, q_kF, q_lF, q_nF, q_rF, q_jF, q_dF, q_us, q_un, q_ua, L_X3_levelOfBreak_9, B_X3_levelOfBreak_9, B_X3_levelOfBreak_47, brk, s.k0, s.r0, s.k1, hk, hm, this, e, true_or]
    · rw [e] at hk
      have v1 := x3_value s h w hc e2
      have v2 := x3_value s h w (show card - 1 < nt (A 8) by omega) e2
      have b1 := sp_val_lt w hc e2
      have b2 := sp_val_lt w (show card - 1 < nt (A 8) by omega) e2
      have ne : ¬ A (73 + (l + 1) - 1) = -nI 1 := by rw [e]; exact fun q => by have := nI_eqm (n := nt (A (73 + (l + 1) - 1))) (by omega); rw [this] at q; exact q
      by_cases hx : sp_val A card (nt (A (73 + (l + 1) - 1))) = sp_val A (card - 1) (nt (A (73 + (l + 1) - 1)))
      · simp (disch := first | assumption | omega) only [q_bl, q_baT, q_bi, q_ba, q_pr, q_ob, q_iT, q_iN, q_it, q_if, q_of, nI_add, pk_mul, pk_sub, nI_leI, nI_ltI, nI_eq, nI_clamp, nI_lt0, nI_eqm, m1_eq, true_or, or_true, not_false_eq_true, m1_lt, m1_nlt, m1_le, m1_nle, b01, b011, q_em, q_m1, n_0, n_1, n_2, n_3, n_4, n_5, n_6, n_7, n_8, n_9, n_10, n_11, n_12, n_14, n_15, n_16, n_20, n_24, n_25, n_32, n_36, n_40, n_41, n_42, n_43, n_45, n_46, n_48, n_57, n_59, n_60, n_73, n_76, n_97, n_99, n_100, n_106, n_109, n_120, n_122, n_136, n_160, n_176, n_200, n_255, n_800, n_1000, n_1001, n_1002, n_1003, n_1006, n_1012, n_1018, n_1019, n_1020, n_1100, n_1140, n_4800, n_4920, n_5940, n_6740, n_20220, q_kI, q_lI, q_nI, q_rI, q_iI, q_jI, q_dI, q_kJ, q_lJ, q_nJ, q_rJ, q_iJ, q_jJ, q_dJ, q_kC, q_lC, q_nC, q_rC, q_jC, q_dC, q_kF, q_lF, q_nF, q_rF, q_jF, q_dF, q_us, q_un, q_ua, L_X3_levelOfBreak_9, B_X3_levelOfBreak_9, B_X3_levelOfBreak_47, brk, s.k0, s.r0, s.k1, hk, hm, this, v1, v2, hx, or_true]
      · have ny : ¬ (A (73 + (l + 1) - 1) = -nI 1 ∨ sp_val A card (nt (A (73 + (l + 1) - 1))) = sp_val A (card - 1) (nt (A (73 + (l + 1) - 1)))) := fun q => q.elim ne hx
        simp (disch := first | assumption | omega) only [q_bl, q_baT, q_bi, q_ba, q_pr, q_ob, q_iT, q_iN, q_it, q_if, q_of, nI_add, pk_mul, pk_sub, nI_leI, nI_ltI, nI_eq, nI_clamp, nI_lt0, nI_eqm, m1_eq, true_or, or_true, not_false_eq_true, m1_lt, m1_nlt, m1_le, m1_nle, b01, b011, q_em, q_m1, n_0, n_1, n_2, n_3, n_4, n_5, n_6, n_7, n_8, n_9, n_10, n_11, n_12, n_14, n_15, n_16, n_20, n_24, n_25, n_32, n_36, n_40, n_41, n_42, n_43, n_45, n_46, n_48, n_57, n_59, n_60, n_73, n_76, n_97, n_99, n_100, n_106, n_109, n_120, n_122, n_136, n_160, n_176, n_200, n_255, n_800, n_1000, n_1001, n_1002, n_1003, n_1006, n_1012, n_1018, n_1019, n_1020, n_1100, n_1140, n_4800, n_4920, n_5940, n_6740, n_20220, q_kI, q_lI, q_nI, q_rI, q_iI, q_jI, q_dI, q_kJ, q_lJ, q_nJ, q_rJ, q_iJ, q_jJ, q_dJ, q_kC, q_lC, q_nC, q_rC, q_jC, q_dC, q_kF, q_lF, q_nF, q_rF, q_jF, q_dF, q_us, q_un, q_ua, L_X3_levelOfBreak_9, B_X3_levelOfBreak_9, B_X3_levelOfBreak_47, brk, s.k0, s.r0, s.k1, hk, v1, v2]
theorem x3_break {μ : Mem} {r card : Nat} {A : SA} (s : SM μ r) (h : RBD (gI μ) r A) (w : WB A) (hc : card < nt (A 8)) : F_X3_levelOfBreak r (nI card) μ = some (nI (sp_brk A card)) := by
  have hb := w.c8.2
  by_cases h0 : card = 0
  · simp (disch := first | assumption | omega) only [q_bl, q_baT, q_bi, q_ba, q_pr, q_ob, q_iT, q_iN, q_it, q_if, q_of, nI_add, pk_mul, pk_sub, nI_leI, nI_ltI, nI_eq, nI_clamp, nI_lt0, nI_eqm, m1_eq, true_or, or_true, not_false_eq_true, m1_lt, m1_nlt, m1_le, m1_nle, b01, b011, q_em, q_m1, n_0, n_1, n_2, n_3, n_4, n_5, n_6, n_7, n_8, n_9, n_10, n_11, n_12, n_14, n_15, n_16, n_20, n_24, n_25, n_32, n_36, n_40, n_41, n_42, n_43, n_45, n_46, n_48, n_57, n_59, n_60, n_73, n_76, n_97, n_99, n_100, n_106, n_109, n_120, n_122, n_136, n_160, n_176, n_200, n_255, n_800, n_1000, n_1001, n_1002, n_1003, n_1006, n_1012, n_1018, n_1019, n_1020, n_1100, n_1140, n_4800, n_4920, n_5940, n_6740, n_20220, q_kI, q_lI, q_nI, q_rI, q_iI, q_jI, q_dI, q_kJ, q_lJ, q_nJ, q_rJ, q_iJ, q_jJ, q_dJ, q_kC, q_lC, q_nC, q_rC, q_jC, q_dC, q_kF, q_lF, q_nF, q_rF, q_jF, q_dF, q_us, q_un, q_ua, F_X3_levelOfBreak, sp_brk, h0]
  · have := l_brk s h w hc (by omega) 3 FU (FU_gt (by decide)) (by decide)
    simp (disch := first | assumption | omega) only [q_bl, q_baT, q_bi, q_ba, q_pr, q_ob, q_iT, q_iN, q_it, q_if, q_of, nI_add, pk_mul, pk_sub, nI_leI, nI_ltI, nI_eq, nI_clamp, nI_lt0, nI_eqm, m1_eq, true_or, or_true, not_false_eq_true, m1_lt, m1_nlt, m1_le, m1_nle, b01, b011, q_em, q_m1, n_0, n_1, n_2, n_3, n_4, n_5, n_6, n_7, n_8, n_9, n_10, n_11, n_12, n_14, n_15, n_16, n_20, n_24, n_25, n_32, n_36, n_40, n_41, n_42, n_43, n_45, n_46, n_48, n_57, n_59, n_60, n_73, n_76, n_97, n_99, n_100, n_106, n_109, n_120, n_122, n_136, n_160, n_176, n_200, n_255, n_800, n_1000, n_1001, n_1002, n_1003, n_1006, n_1012, n_1018, n_1019, n_1020, n_1100, n_1140, n_4800, n_4920, n_5940, n_6740, n_20220, q_kI, q_lI, q_nI, q_rI, q_iI, q_jI, q_dI, q_kJ, q_lJ, q_nJ, q_rJ, q_iJ, q_jJ, q_dJ, q_kC, q_lC, q_nC, q_rC, q_jC, q_dC, q_kF, q_lF, q_nF, q_rF, q_jF, q_dF, q_us, q_un, q_ua, F_X3_levelOfBreak, sp_brk, h0, this]
theorem Rep.n0 {I : Nat → SA} {r : Nat} {A : SA} (h : Rep I r A) (w : WB A) : I (r + 2) 2 = nI (nt (A 0)) := h.bd.n0 w
theorem Rep.n1 {I : Nat → SA} {r : Nat} {A : SA} (h : Rep I r A) (w : WB A) : I (r + 4) 2 = nI (nt (A 1)) := h.bd.n1 w
theorem Rep.n2 {I : Nat → SA} {r : Nat} {A : SA} (h : Rep I r A) (w : WB A) : I (r + 6) 2 = nI (nt (A 2)) := h.bd.n2 w
theorem Rep.n3 {I : Nat → SA} {r : Nat} {A : SA} (h : Rep I r A) (w : WB A) : I (r + 8) 2 = nI (nt (A 3)) := h.bd.n3 w
theorem Rep.n4 {I : Nat → SA} {r : Nat} {A : SA} (h : Rep I r A) (w : WB A) : I (r + 10) 2 = nI (nt (A 4)) := h.bd.n4 w
theorem Rep.n5 {I : Nat → SA} {r : Nat} {A : SA} (h : Rep I r A) (w : WB A) : I (r + 12) 2 = nI (nt (A 5)) := h.bd.n5 w
theorem Rep.n6 {I : Nat → SA} {r : Nat} {A : SA} (h : Rep I r A) (w : WB A) : I (r + 14) 2 = nI (nt (A 6)) := h.bd.n6 w
theorem Rep.n7 {I : Nat → SA} {r : Nat} {A : SA} (h : Rep I r A) (w : WB A) : I (r + 16) 2 = nI (nt (A 7)) := h.bd.n7 w
theorem Rep.n8 {I : Nat → SA} {r : Nat} {A : SA} (h : Rep I r A) (w : WB A) : I (r + 19) 1 = nI (nt (A 8)) := h.bd.n8 w

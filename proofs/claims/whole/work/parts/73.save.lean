/-! LAYER 3: save -/
theorem SM.ext {μ μ' : Mem} {r : Nat} (h : SM μ r) (e : ∀ a, r ≤ a → a < r + 31 → gK μ' a = gK μ a ∧ gL μ' a = gL μ a ∧ gR μ' a = gR μ a) : SM μ' r :=
  ⟨h.1, fun i hi => (e _ (by omega) (by omega)).1.trans (h.2.1 i hi), fun i hi => (e _ (by omega) (by omega)).2.1.trans (h.2.2.1 i hi), fun p hp => by
    have : ∀ p, p ∈ sm_R → p.1 < 31 := by decide
    rw [(e (r + p.1) (by omega) (by have := this p hp; omega)).2.2]; exact h.2.2.2 p hp⟩
theorem SR.ext {μ μ' : Mem} {m : Nat} (h : SR μ m) (e : ∀ a, m ≤ a → a < m + 12 → gK μ' a = gK μ a ∧ gL μ' a = gL μ a ∧ gR μ' a = gR μ a) : SR μ' m :=
  ⟨h.1, fun i hi => (e _ (by omega) (by omega)).1.trans (h.2.1 i hi), fun i h1 hi => (e _ (by omega) (by omega)).2.1.trans (h.2.2.1 i h1 hi), fun p hp => by rw [(e m (by omega) (by omega)).2.2]; exact h.2.2.2 p hp⟩
theorem SB.ext {μ μ' : Mem} {b : Nat} (h : SB μ b) (e : ∀ a, b ≤ a → a < b + 18 → gK μ' a = gK μ a ∧ gL μ' a = gL μ a ∧ gR μ' a = gR μ a) : SB μ' b := by
  obtain ⟨h1, h2, h3, h4, h5⟩ := h
  refine ⟨(e _ (by omega) (by omega)).1.trans h1, fun k hk => ⟨?_, ?_⟩, ?_, (e _ (by omega) (by omega)).1.trans h4, (e _ (by omega) (by omega)).2.1.trans h5⟩
  · rw [(e b (by omega) (by omega)).2.2]; exact (h2 k hk).1
  · obtain ⟨t1, t2, t3, t4⟩ := (h2 k hk).2
    exact ⟨(e _ (by omega) (by omega)).1.trans t1, by rw [(e (b + 1 + 2 * k) (by omega) (by omega)).2.2]; exact t2, (e _ (by omega) (by omega)).1.trans t3, (e _ (by omega) (by omega)).2.1.trans t4⟩
  · rw [(e b (by omega) (by omega)).2.2]; exact h3
theorem SD.ext {μ μ' : Mem} {d : Nat} (h : SD μ d) (e : ∀ a, d ≤ a → a < d + 2 → gK μ' a = gK μ a ∧ gL μ' a = gL μ a ∧ gR μ' a = gR μ a) : SD μ' d := by
  obtain ⟨h1, h2, h3, h4⟩ := h
  exact ⟨(e _ (by omega) (by omega)).1.trans h1, by rw [(e d (by omega) (by omega)).2.2]; exact h2, (e _ (by omega) (by omega)).1.trans h3, (e _ (by omega) (by omega)).2.1.trans h4⟩
theorem RDS.ext {μ μ' : Mem} {d : Nat} (h : RDS μ d) (e : ∀ a, d ≤ a → a < d + 25 → gK μ' a = gK μ a ∧ gL μ' a = gL μ a ∧ gR μ' a = gR μ a) : RDS μ' d := by
  obtain ⟨h1, h2, h3, h4, h5, h6, h7, h8, h9, h10, h11, h12, h13, h14, h15, h16, h17⟩ := h
  have e0 := e d (by omega) (by omega)
  have e1 := e (d + 1) (by omega) (by omega)
  have e2 := e (d + 2) (by omega) (by omega)
  have e3 := e (d + 3) (by omega) (by omega)
  have e4 := e (d + 4) (by omega) (by omega)
  unfold RDS
  rw [e0.1, e0.2.2, e1.1, e1.2.1, e2.1, e2.2.1, e3.1, e3.2.1, e4.1, e4.2.1]
  exact ⟨h1, h2, h3, h4, h5, h6, h7, h8, h9, h10, h11, h12, h13, h14, h15, h16.ext (fun a a1 a2 => e a (by omega) (by omega)), h17.ext (fun a a1 a2 => e a (by omega) (by omega))⟩
theorem IS.ext {μ μ' : Mem} {x : Nat} (h : IS μ x) (e : ∀ a, a < x + 134 → gK μ' a = gK μ a ∧ gL μ' a = gL μ a ∧ (¬ a = x + 119 → gR μ' a = gR μ a)) (hN : gN μ ≤ gN μ') : IS μ' x := by
  obtain ⟨h1, h2, h3, h4, h5, h6, h7, h8, h9, h10, h11, h12, h13, h14, h15, h16, h17, h18, h19⟩ := h
  have e2 : ∀ a, a < x + 134 → ¬ a = x + 119 → gK μ' a = gK μ a ∧ gL μ' a = gL μ a ∧ gR μ' a = gR μ a := fun a ha hn => ⟨(e a ha).1, (e a ha).2.1, (e a ha).2.2 hn⟩
  have ex := e2 x (by omega) (by omega)
  unfold IS
  rw [ex.1, ex.2.2, (e (x + 119) (by omega)).1, (e (x + 119) (by omega)).2.1, (e (x + 132) (by omega)).1, (e (x + 132) (by omega)).2.1, (e (x + 133) (by omega)).1, (e (x + 133) (by omega)).2.1]
  exact ⟨h1, h2, h3, h4, h5, h6, h7.ext (fun a a1 a2 => e2 a (by omega) (by omega)), h8.ext (fun a a1 a2 => e2 a (by omega) (by omega)), h9.ext (fun a a1 a2 => e2 a (by omega) (by omega)), h10, h11, h12.ext (fun a a1 a2 => e2 a (by omega) (by omega)), h13.ext (fun a a1 a2 => e2 a (by omega) (by omega)), h14, h15, h16, h17, by omega, h19⟩
theorem MO.mv {μ μ' : Mem} {r b : Nat} {A : SA} (h : MO μ r A b) (e : ∀ a, r ≤ a → a < r + 31 → gK μ' a = gK μ a ∧ gL μ' a = gL μ a ∧ gR μ' a = gR μ a) (eI : ∀ a, r ≤ a → a < r + 31 → gI μ' a = gI μ a) : MO μ' r A b := ⟨h.1.ext e, h.2.1.eq eI, h.2.2⟩
/-- one slot -/
def SL1 (μ : Mem) (x i : Nat) : Prop := (gR μ (x + 119) i = 0 ∧ gI μ (x + 125) i = nI 0) ∨ (x + 134 ≤ gR μ (x + 119) i ∧ gR μ (x + 119) i + 31 ≤ gN μ ∧ gI μ (x + 125) i = nI 1 ∧ ∃ B : SA, MO μ (gR μ (x + 119) i) B (BB B) ∧ ∀ j, j < 6740 → gI μ (x + 124) (6740 * i + j) = B j)
def SLd (μ : Mem) (x : Nat) : Prop := ∀ i j, i < 3 → j < 3 → ¬ i = j → ¬ gR μ (x + 119) i = 0 → ¬ gR μ (x + 119) j = 0 → gR μ (x + 119) i + 31 ≤ gR μ (x + 119) j ∨ gR μ (x + 119) j + 31 ≤ gR μ (x + 119) i
/-- all, but what slot i holds -/
def INW (μ : Mem) (x : Nat) (A : SA) (i r : Nat) : Prop := IS μ x ∧ MO μ (x + 26) A (BB A) ∧ gI μ (x + 121) = A ∧ (∀ j, j < 3 → ¬ j = i → SL1 μ x j) ∧ SLd μ x ∧ BF μ x ∧ ER μ x ∧ gR μ (x + 119) i = r ∧ x + 134 ≤ r ∧ r + 31 ≤ gN μ ∧ SM μ r
section SAV
variable {μ μ1 μ2 : Mem} {x : Nat} {A : SA}
theorem sv_end {i r : Nat} (hi : i < 3) (h : INW μ x A i r) : ∃ μ1 μ2, F_X3_copyFrom r (x + 26) μ = some μ1 ∧ SR μ1 (x + 120) ∧ F_X9_save (x + 120) (nI i) μ1 = some μ2 ∧ gI μ2 (x + 120) 5 = nI 0 ∧ INV μ2 x A := by
  obtain ⟨h1, h2, h3, h4, h5, h6, h7, h8, h9, h10, h11⟩ := h
  obtain ⟨μ1, e1, m1, f1⟩ := x3_copy h11 h2 (by omega)
  have f1' : Fx (fun a => r ≤ a ∧ a < r + 31) μ μ1 := f1.mono (fun a ha => ha)
  have sr := h1.sr.fx f1
  have ra1 : RA μ1 (x + 120) A := ⟨sr, by rw [f1'.I (by omega)]; exact h3⟩
  have ra2 := ra1.thr (v := nI 0)
  have t2 := ra2.1
  obtain ⟨μ2, c1, c2, c3⟩ := x9_copy (μ := stI μ1 (x + 120) 5 (nI 0)) (a := x + 120 + 1) (c := x + 120 + 4) (p := 0) (q := 6740 * i) (by omega) (by decide) (by omega) t2.k1 t2.k4 (by rw [t2.l1]; decide) (by rw [t2.l4]; omega)
  have t3 := t2.fx c3
  have f2 : Fx (fun a => a = x + 120 ∨ a = x + 124 ∨ a = x + 125) μ1 (stI μ2 (x + 120 + 5) i (nI 1)) := (Fx.stI (Or.inl rfl)).trans ((c3.mono (fun a ha => Or.inr (Or.inl ha))).trans (Fx.stI (Or.inr (Or.inr rfl))))
  have ff : Fx (fun a => (r ≤ a ∧ a < r + 31) ∨ a = x + 120 ∨ a = x + 124 ∨ a = x + 125) μ (stI μ2 (x + 120 + 5) i (nI 1)) := (f1'.mono (fun a ha => Or.inl ha)).trans (f2.mono (fun a ha => Or.inr ha))
  have g120 : ∀ j, ¬ j = 5 → gI (stI μ2 (x + 120 + 5) i (nI 1)) (x + 120) j = gI μ (x + 120) j := fun j hj => by
    rw [q_iI, q_ua (by omega), c3.I (a := x + 120) (by omega), q_iI, q_un (fun e => hj e.2), f1'.I (by omega)]
  have g124 : ∀ j, gI (stI μ2 (x + 120 + 5) i (nI 1)) (x + 124) j = if 6740 * i ≤ j ∧ j < 6740 * i + 6740 then A (j - 6740 * i) else gI μ (x + 124) j := fun j => by
    rw [q_iI, q_ua (by omega), show x + 124 = x + 120 + 4 from rfl, c2 j, ra2.2, Nat.zero_add]
    by_cases hj : 6740 * i ≤ j ∧ j < 6740 * i + 6740
    · rw [if_pos hj, if_pos hj]
    · rw [if_neg hj, if_neg hj, q_iI, q_ua (by omega), f1'.I (by omega)]
  have g125 : ∀ j, gI (stI μ2 (x + 120 + 5) i (nI 1)) (x + 125) j = if j = i then nI 1 else gI μ (x + 125) j := fun j => by
    rw [q_iI, show x + 125 = x + 120 + 5 from rfl]
    by_cases hj : j = i
    · subst hj; rw [q_us, if_pos rfl]
    · rw [q_un (fun e => hj e.2), if_neg hj, c3.I (a := x + 120 + 5) (by omega), q_iI, q_ua (by omega), f1'.I (by omega)]
  refine ⟨μ1, stI μ2 (x + 120 + 5) i (nI 1), e1, sr, ?_, ?_, h1.fx ff, h2.fx ff (fun a a1 a2 => by omega), ?_, ⟨fun j hj => ?_, ?_⟩, ?_, ?_⟩
  · have q9 := q9_slot (μ := μ1) hi
    clear g120 g124 g125 ff f2 h1 h2 h3 h4 h5 h6 h7 h8 h11 m1 f1 f1' c2 c3 ra1 ra2 e1
    simp (disch := first | assumption | omega) only [q_bl, q_baT, q_bi, q_ba, q_pr, q_ob, q_iT, q_iN, q_it, q_if, q_of, nI_add, pk_mul, pk_sub, nI_leI, nI_ltI, nI_eq, nI_clamp, nI_lt0, nI_eqm, m1_eq, true_or, or_true, not_false_eq_true, m1_lt, m1_nlt, m1_le, m1_nle, b01, b011, q_em, q_m1, n_0, n_1, n_2, n_3, n_4, n_5, n_6, n_7, n_8, n_9, n_10, n_11, n_12, n_14, n_15, n_16, n_20, n_24, n_25, n_32, n_36, n_40, n_41, n_42, n_43, n_45, n_46, n_48, n_57, n_59, n_60, n_73, n_76, n_97, n_99, n_100, n_106, n_109, n_120, n_122, n_136, n_160, n_176, n_200, n_255, n_800, n_1000, n_1001, n_1002, n_1003, n_1006, n_1012, n_1018, n_1019, n_1020, n_1100, n_1140, n_4800, n_4920, n_5940, n_6740, n_20220, F_X9_save, q9, sr.k0, q9_good sr, t2.k0, t2.r0, t2.r3, c1, t3.k0, t3.r4, t3.k5, t3.l5]
  · rw [q_iI, q_ua (by omega), c3.I (a := x + 120) (by omega), q_iI, q_us]
  · rw [ff.I (by omega)]; exact h3
  · rw [ff.2.2.2.1, ff.2.2.1]
    by_cases hji : j = i
    · subst hji
      refine Or.inr ⟨by omega, by omega, by rw [g125 j, if_pos rfl], A, by rw [h8]; exact m1.fx f2 (fun a a1 a2 => by omega), fun k hk => by rw [g124, if_pos (by omega)]; congr 1; omega⟩
    · rcases h4 j hj hji with ⟨z1, z2⟩ | ⟨z1, z2, z3, B, z4, z5⟩
      · exact Or.inl ⟨z1, by rw [g125 j, if_neg hji]; exact z2⟩
      · have hd := h5 i j hi hj (fun e => hji e.symm) (by omega) (by omega)
        exact Or.inr ⟨z1, z2, by rw [g125 j, if_neg hji]; exact z3, B, z4.fx ff (fun a a1 a2 => by omega), fun k hk => by rw [g124, if_neg (by omega)]; exact z5 k hk⟩
  · rw [ff.2.2.2.1]; exact h5
  · obtain ⟨⟨n, n1, n2, n3, n4⟩, hl⟩ := h6
    exact ⟨⟨n, n1, by rw [ff.I (a := x + 1) (by omega)]; exact n2, by rw [g120 7 (by decide)]; exact n3, fun k hk => by rw [ff.I (a := x + 2) (by omega), ff.I (a := x + 126) (by omega)]; exact n4 k hk⟩, hl.eq (fun a a1 a2 => ff.I (by omega))⟩
  · unfold ER
    rw [ff.I (a := x + 1) (by omega), g120 8 (by decide), g120 9 (by decide)]; exact h7
theorem inw_old {i : Nat} (h : INV μ x A) (hi : i < 3) (hz : ¬ gR μ (x + 119) i = 0) : INW μ x A i (gR μ (x + 119) i) := by
  obtain ⟨h1, h2, h3, h4, h5, h6⟩ := h
  rcases h4.1 i hi with ⟨z1, _⟩ | ⟨z1, z2, z3, B, z4, z5⟩
  · exact absurd z1 hz
  · exact ⟨h1, h2, h3, fun j hj _ => h4.1 j hj, h4.2, h5, h6, rfl, z1, z2, z4.1⟩
theorem inw_new {i : Nat} (h : INV μ x A) (hi : i < 3) (hz : gR μ (x + 119) i = 0) : ∃ μ1, F_X3_init (gN μ) (stN μ 3 0) = some μ1 ∧ gK μ1 (x + 119) = 105 ∧ gL μ1 (x + 119) = 3 ∧ gK μ1 (gN μ) = 3 ∧ INW (stR μ1 (x + 119) i (gN μ)) x A i (gN μ) := by
  obtain ⟨h1, h2, h3, h4, h5, h6⟩ := h
  have gn := h1.gn
  have x23 : 23 ≤ x := h1.2.2.2.2.2.2.2.2.2.2.2.2.2.2.2.2.2.2
  obtain ⟨μ1, e1, p1, n1, s1, _, _⟩ := a3 (μ := stN μ 3 0) (r := gN μ) N_N (N_Ks rfl) (by omega) (N_Ls rfl)
  have eK : ∀ a, a < gN μ → gK μ1 a = gK μ a ∧ gL μ1 a = gL μ a ∧ gR μ1 a = gR μ a ∧ gI μ1 a = gI μ a := fun a ha => ⟨(p1.k ha).trans (N_K (by omega)), (p1.l ha).trans (N_L (by omega)), (p1.2 a ha (by omega)).trans (N_R (by omega)), (p1.i ha).trans (N_I (by omega))⟩
  have eR : ∀ a, ¬ a = x + 119 → gR (stR μ1 (x + 119) i (gN μ)) a = gR μ1 a := fun a ha => by rw [R_R, q_ua ha]
  have e3 : ∀ a, a < gN μ → ¬ a = x + 119 → gK (stR μ1 (x + 119) i (gN μ)) a = gK μ a ∧ gL (stR μ1 (x + 119) i (gN μ)) a = gL μ a ∧ gR (stR μ1 (x + 119) i (gN μ)) a = gR μ a := fun a ha hn => ⟨(eK a ha).1, (eK a ha).2.1, (eR a hn).trans (eK a ha).2.2.1⟩
  have eI : ∀ a, a < gN μ → gI (stR μ1 (x + 119) i (gN μ)) a = gI μ a := fun a ha => (eK a ha).2.2.2
  have rj : ∀ j, ¬ j = i → gR (stR μ1 (x + 119) i (gN μ)) (x + 119) j = gR μ (x + 119) j := fun j hj => by rw [R_R, q_un (fun e => hj e.2), (eK _ (by omega)).2.2.1]
  have ri : gR (stR μ1 (x + 119) i (gN μ)) (x + 119) i = gN μ := by rw [R_R, q_us]
  have nn : gN (stR μ1 (x + 119) i (gN μ)) = gN μ + 31 := n1
  refine ⟨μ1, e1, (eK _ (by omega)).1.trans h1.ks, (eK _ (by omega)).2.1.trans h1.ls, s1.k0, h1.ext (fun a ha => ⟨(eK a (by omega)).1, (eK a (by omega)).2.1, fun hn => (e3 a (by omega) hn).2.2⟩) (by omega), h2.mv (fun a a1 a2 => e3 a (by omega) (by omega)) (fun a a1 a2 => eI a (by omega)), (eI _ (by omega)).trans h3, fun j hj hji => ?_, fun j k hj hk hjk z1 z2 => ?_, ?_, ?_, ri, by omega, by omega, s1.ext (fun a a1 a2 => ⟨rfl, rfl, eR a (by omega)⟩)⟩
  · unfold SL1
    rw [rj j hji, nn, eI _ (by omega), eI _ (by omega)]
    rcases h4.1 j hj with z | ⟨z1, z2, z3, B, z4, z5⟩
    · exact Or.inl z
    · exact Or.inr ⟨z1, by omega, z3, B, z4.mv (fun a a1 a2 => e3 a (by omega) (by omega)) (fun a a1 a2 => eI a (by omega)), z5⟩
  · by_cases hj2 : j = i
    · subst hj2
      rw [rj k (fun e => hjk e.symm)] at z2 ⊢
      rw [ri]
      rcases h4.1 k hk with z | ⟨_, q2, _⟩
      · exact absurd z.1 z2
      · omega
    · rw [rj j hj2] at z1 ⊢
      by_cases hk2 : k = i
      · subst hk2
        rw [ri]
        rcases h4.1 j hj with z | ⟨_, q2, _⟩
        · exact absurd z.1 z1
        · omega
      · rw [rj k hk2] at z2 ⊢
        exact h4.2 j k hj hk hjk z1 z2
  · obtain ⟨⟨n, n1, n2, n3, n4⟩, hl⟩ := h5
    exact ⟨⟨n, n1, by rw [eI _ (by omega)]; exact n2, by rw [eI _ (by omega)]; exact n3, fun k hk => by rw [eI _ (by omega), eI _ (by omega)]; exact n4 k hk⟩, hl.eq (fun a a1 a2 => eI a (by omega))⟩
  · unfold ER
    rw [eI (x + 1) (by omega), eI (x + 120) (by omega)]; exact h6
theorem ls_save {i1 : Int32} (h : INV μ x A) : ∃ k μ1 μ2, F_L_save x i1 μ = some (k, μ1) ∧ F_X9_save (x + 120) i1 μ1 = some μ2 ∧ gI μ2 (x + 120) 5 = k ∧ IS μ2 x ∧ ∃ B, INV μ2 x B := by
  have hs := h.is
  have sr := h.is.sr
  have gn := h.is.gn
  by_cases k1 : IR i1 3
  · obtain ⟨i, hi, rfl⟩ := k1.ex (by decide)
    have q8 := r8_slot (μ := μ) (x := x) hi
    by_cases hz : gR μ (x + 119) i = 0
    · obtain ⟨μ1, e1, kk, ll, kr, w⟩ := inw_new h hi hz
      obtain ⟨μ2, μ3, e2, s2, e3, e4, e5⟩ := sv_end hi w
      have sw := w.1
      have ri := w.2.2.2.2.2.2.2.1
      have kr2 : gK (stR μ1 (x + 119) i (gN μ)) (gN μ) = 3 := kr
      have g23 : 23 ≤ gN μ := by have := w.2.2.2.2.2.2.2.2.2.2.1; omega
      refine ⟨nI 0, μ2, μ3, ?_, e3, e4, e5.1, A, e5⟩
      have ks := hs.ks
      have ls := hs.ls
      have ksw := sw.ks
      have lsw := sw.ls
      clear h w e3 e4 e5 s2 k1
      simp (disch := first | assumption | omega) only [q_bl, q_baT, q_bi, q_ba, q_pr, q_ob, q_iT, q_iN, q_it, q_if, q_of, nI_add, pk_mul, pk_sub, nI_leI, nI_ltI, nI_eq, nI_clamp, nI_lt0, nI_eqm, m1_eq, true_or, or_true, not_false_eq_true, m1_lt, m1_nlt, m1_le, m1_nle, b01, b011, q_em, q_m1, n_0, n_1, n_2, n_3, n_4, n_5, n_6, n_7, n_8, n_9, n_10, n_11, n_12, n_14, n_15, n_16, n_20, n_24, n_25, n_32, n_36, n_40, n_41, n_42, n_43, n_45, n_46, n_48, n_57, n_59, n_60, n_73, n_76, n_97, n_99, n_100, n_106, n_109, n_120, n_122, n_136, n_160, n_176, n_200, n_255, n_800, n_1000, n_1001, n_1002, n_1003, n_1006, n_1012, n_1018, n_1019, n_1020, n_1100, n_1140, n_4800, n_4920, n_5940, n_6740, n_20220, F_L_save, F_X8_save, B_X8_save_27, q_prL, q_prR, hs.kx, hs.r4, ks, ls, q8, hz, g23, e1, kk, ll, kr, sw.kx, sw.r4, sw.r1, ksw, lsw, ri, kr2, e2]
    · have w := inw_old h hi hz
      obtain ⟨μ2, μ3, e2, s2, e3, e4, e5⟩ := sv_end hi w
      have kr : gK μ (gR μ (x + 119) i) = 3 := w.2.2.2.2.2.2.2.2.2.2.k0
      refine ⟨nI 0, μ2, μ3, ?_, e3, e4, e5.1, A, e5⟩
      have ks := hs.ks
      have ls := hs.ls
      clear h w e3 e4 e5 s2 k1
      simp (disch := first | assumption | omega) only [q_bl, q_baT, q_bi, q_ba, q_pr, q_ob, q_iT, q_iN, q_it, q_if, q_of, nI_add, pk_mul, pk_sub, nI_leI, nI_ltI, nI_eq, nI_clamp, nI_lt0, nI_eqm, m1_eq, true_or, or_true, not_false_eq_true, m1_lt, m1_nlt, m1_le, m1_nle, b01, b011, q_em, q_m1, n_0, n_1, n_2, n_3, n_4, n_5, n_6, n_7, n_8, n_9, n_10, n_11, n_12, n_14, n_15, n_16, n_20, n_24, n_25, n_32, n_36, n_40, n_41, n_42, n_43, n_45, n_46, n_48, n_57, n_59, n_60, n_73, n_76, n_97, n_99, n_100, n_106, n_109, n_120, n_122, n_136, n_160, n_176, n_200, n_255, n_800, n_1000, n_1001, n_1002, n_1003, n_1006, n_1012, n_1018, n_1019, n_1020, n_1100, n_1140, n_4800, n_4920, n_5940, n_6740, n_20220, F_L_save, F_X8_save, B_X8_save_27, q_prL, q_prR, hs.kx, hs.r4, hs.r1, ks, ls, q8, kr, e2]
  · have q8 := r8_slotN (μ := μ) (x := x) k1
    have q9 := q9_slotN (μ := μ) k1
    have i2 := h.step (B := A) Fx.same h.mo (RK.thr (v := nI 1)) (by rw [q_iI, q_ua (by omega)]; exact h.2.2.1)
    refine ⟨nI 1, μ, _, ?_, ?_, by rw [q_iI, q_us], i2.1, A, i2⟩
    · clear h i2 k1 q9
      simp (disch := first | assumption | omega) only [q_bl, q_baT, q_bi, q_ba, q_pr, q_ob, q_iT, q_iN, q_it, q_if, q_of, nI_add, pk_mul, pk_sub, nI_leI, nI_ltI, nI_eq, nI_clamp, nI_lt0, nI_eqm, m1_eq, true_or, or_true, not_false_eq_true, m1_lt, m1_nlt, m1_le, m1_nle, b01, b011, q_em, q_m1, n_0, n_1, n_2, n_3, n_4, n_5, n_6, n_7, n_8, n_9, n_10, n_11, n_12, n_14, n_15, n_16, n_20, n_24, n_25, n_32, n_36, n_40, n_41, n_42, n_43, n_45, n_46, n_48, n_57, n_59, n_60, n_73, n_76, n_97, n_99, n_100, n_106, n_109, n_120, n_122, n_136, n_160, n_176, n_200, n_255, n_800, n_1000, n_1001, n_1002, n_1003, n_1006, n_1012, n_1018, n_1019, n_1020, n_1100, n_1140, n_4800, n_4920, n_5940, n_6740, n_20220, F_L_save, F_X8_save, q_prL, q_prR, hs.kx, q8]
    · clear h i2 k1 q8
      simp (disch := first | assumption | omega) only [q_bl, q_baT, q_bi, q_ba, q_pr, q_ob, q_iT, q_iN, q_it, q_if, q_of, nI_add, pk_mul, pk_sub, nI_leI, nI_ltI, nI_eq, nI_clamp, nI_lt0, nI_eqm, m1_eq, true_or, or_true, not_false_eq_true, m1_lt, m1_nlt, m1_le, m1_nle, b01, b011, q_em, q_m1, n_0, n_1, n_2, n_3, n_4, n_5, n_6, n_7, n_8, n_9, n_10, n_11, n_12, n_14, n_15, n_16, n_20, n_24, n_25, n_32, n_36, n_40, n_41, n_42, n_43, n_45, n_46, n_48, n_57, n_59, n_60, n_73, n_76, n_97, n_99, n_100, n_106, n_109, n_120, n_122, n_136, n_160, n_176, n_200, n_255, n_800, n_1000, n_1001, n_1002, n_1003, n_1006, n_1012, n_1018, n_1019, n_1020, n_1100, n_1140, n_4800, n_4920, n_5940, n_6740, n_20220, F_X9_save, q9, sr.k0, q9_goodN sr]
end SAV

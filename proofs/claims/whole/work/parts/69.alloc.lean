/-! LAYER 3: new things -/
theorem N_K {μ : Mem} {k n a : Nat} (h : ¬ a = gN μ) : gK (stN μ k n) a = gK μ a := if_neg h
theorem N_L {μ : Mem} {k n a : Nat} (h : ¬ a = gN μ) : gL (stN μ k n) a = gL μ a := if_neg h
theorem N_R {μ : Mem} {k n a : Nat} (h : ¬ a = gN μ) : gR (stN μ k n) a = gR μ a := funext fun _ => if_neg h
theorem N_I {μ : Mem} {k n a : Nat} (h : ¬ a = gN μ) : gI (stN μ k n) a = gI μ a := funext fun _ => if_neg h
theorem N_J {μ : Mem} {k n a : Nat} (h : ¬ a = gN μ) : gJ (stN μ k n) a = gJ μ a := funext fun _ => if_neg h
theorem N_D {μ : Mem} {k n a : Nat} (h : ¬ a = gN μ) : gD (stN μ k n) a = gD μ a := funext fun _ => if_neg h
theorem N_Ks {μ : Mem} {k n a : Nat} (h : a = gN μ) : gK (stN μ k n) a = k := if_pos h
theorem N_Ls {μ : Mem} {k n a : Nat} (h : a = gN μ) : gL (stN μ k n) a = n := if_pos h
theorem N_Is {μ : Mem} {k n a : Nat} (h : a = gN μ) : gI (stN μ k n) a = fun _ => nI 0 := funext fun _ => if_pos h
theorem N_N {μ : Mem} {k n : Nat} : gN (stN μ k n) = gN μ + 1 := of_eq_true (eq_true rfl)
theorem R_K {μ : Mem} {a j v : Nat} : gK (stR μ a j v) = gK μ := of_eq_true (eq_true rfl)
theorem R_L {μ : Mem} {a j v : Nat} : gL (stR μ a j v) = gL μ := of_eq_true (eq_true rfl)
theorem R_N {μ : Mem} {a j v : Nat} : gN (stR μ a j v) = gN μ := of_eq_true (eq_true rfl)
theorem R_R {μ : Mem} {a j v : Nat} : gR (stR μ a j v) = up2 (gR μ) a j v := of_eq_true (eq_true rfl)
theorem R_I {μ : Mem} {a j v : Nat} : gI (stR μ a j v) = gI μ := of_eq_true (eq_true rfl)
theorem R_J {μ : Mem} {a j v : Nat} : gJ (stR μ a j v) = gJ μ := of_eq_true (eq_true rfl)
theorem R_D {μ : Mem} {a j v : Nat} : gD (stR μ a j v) = gD μ := of_eq_true (eq_true rfl)
/-- below t all is as it was, but for the fields of r -/
def PV (μ μ' : Mem) (t r : Nat) : Prop := (∀ a, a < t → gK μ' a = gK μ a ∧ gL μ' a = gL μ a ∧ gI μ' a = gI μ a ∧ gJ μ' a = gJ μ a ∧ gD μ' a = gD μ a) ∧ ∀ a, a < t → ¬ a = r → gR μ' a = gR μ a
theorem PV.trans {μ1 μ2 μ3 : Mem} {t u r : Nat} (h : PV μ1 μ2 t r) (k : PV μ2 μ3 u r) (e : t ≤ u) : PV μ1 μ3 t r :=
  ⟨fun a ha => by
    obtain ⟨a1, a2, a3, a4, a5⟩ := h.1 a ha
    obtain ⟨b1, b2, b3, b4, b5⟩ := k.1 a (by omega)
    exact ⟨b1.trans a1, b2.trans a2, b3.trans a3, b4.trans a4, b5.trans a5⟩, fun a ha hr => (k.2 a (by omega) hr).trans (h.2 a ha hr)⟩
theorem PV.same {μ : Mem} {t r : Nat} : PV μ μ t r := ⟨fun _ _ => ⟨rfl, rfl, rfl, rfl, rfl⟩, fun _ _ _ => rfl⟩
theorem PV.lo {μ μ' : Mem} {t u r q : Nat} (h : PV μ μ' t r) (e : u ≤ t) (e2 : u ≤ r) : PV μ μ' u q := ⟨fun a ha => h.1 a (by omega), fun a ha _ => h.2 a (by omega) (by omega)⟩
theorem PV.k {μ μ' : Mem} {t r a : Nat} (h : PV μ μ' t r) (ha : a < t) : gK μ' a = gK μ a := (h.1 a ha).1
theorem PV.l {μ μ' : Mem} {t r a : Nat} (h : PV μ μ' t r) (ha : a < t) : gL μ' a = gL μ a := (h.1 a ha).2.1
theorem PV.i {μ μ' : Mem} {t r a : Nat} (h : PV μ μ' t r) (ha : a < t) : gI μ' a = gI μ a := (h.1 a ha).2.2.1
theorem ST.pr {μ μ' : Mem} {t u r : Nat} (h : ST μ t) (p : PV μ μ' u r) (e : t + 2 ≤ u) (e2 : ¬ t = r) : ST μ' t := by
  unfold ST
  rw [p.k (show t < u by omega), p.2 t (by omega) e2, p.k (show t + 1 < u by omega), p.l (show t + 1 < u by omega)]; exact h
theorem SD.pr {μ μ' : Mem} {t u r : Nat} (h : SD μ t) (p : PV μ μ' u r) (e : t + 2 ≤ u) (e2 : ¬ t = r) : SD μ' t := by
  unfold SD
  rw [p.k (show t < u by omega), p.2 t (by omega) e2, p.k (show t + 1 < u by omega), p.l (show t + 1 < u by omega)]; exact h
theorem SP.pr {μ μ' : Mem} {t u r : Nat} (h : SP μ t) (p : PV μ μ' u r) (e : t + 3 ≤ u) (e2 : ¬ t = r) : SP μ' t := by
  unfold SP
  rw [p.k (show t < u by omega), p.2 t (by omega) e2, p.k (show t + 1 < u by omega), p.l (show t + 1 < u by omega), p.k (show t + 2 < u by omega), p.l (show t + 2 < u by omega)]; exact h
section ALC
variable {μ μ6 : Mem}
theorem al_arr {r k kd n t : Nat} (ht : gN μ = t) (hr : r < t) : PV μ (stR (stN μ kd n) r k t) t r ∧ (∀ j, ¬ j = k → gR (stR (stN μ kd n) r k t) r j = gR μ r j) ∧ gR (stR (stN μ kd n) r k t) r k = t ∧ gK (stR (stN μ kd n) r k t) t = kd ∧ gL (stR (stN μ kd n) r k t) t = n ∧ gI (stR (stN μ kd n) r k t) t = (fun _ => nI 0) ∧ gN (stR (stN μ kd n) r k t) = t + 1 := by
  subst ht
  refine ⟨⟨fun a ha => ⟨N_K (k := kd) (n := n) (by omega), N_L (k := kd) (n := n) (by omega), N_I (k := kd) (n := n) (by omega), N_J (k := kd) (n := n) (by omega), N_D (k := kd) (n := n) (by omega)⟩, fun a ha hr2 => ?_⟩, fun j hj => ?_, ?_, N_Ks (k := kd) (n := n) rfl, N_Ls (k := kd) (n := n) rfl, N_Is (k := kd) (n := n) rfl, N_N (k := kd) (n := n)⟩
  · rw [R_R, q_ua hr2, N_R (by omega)]
  · rw [R_R, q_un (fun e => hj e.2), N_R (by omega)]
  · rw [R_R, q_us]
theorem al_obj {r k kd t u : Nat} (ht : gN μ = t) (hr : r < t) (p : PV (stN μ kd 0) μ6 t t) (hn : gN μ6 = u) : PV μ (stR μ6 r k t) t r ∧ (∀ j, ¬ j = k → gR (stR μ6 r k t) r j = gR μ r j) ∧ gR (stR μ6 r k t) r k = t ∧ (∀ a, ¬ a = r → gR (stR μ6 r k t) a = gR μ6 a) ∧ gN (stR μ6 r k t) = u := by
  subst ht
  refine ⟨⟨fun a ha => ?_, fun a ha hr2 => ?_⟩, fun j hj => ?_, ?_, fun a ha => by rw [R_R, q_ua ha], hn⟩
  · obtain ⟨a1, a2, a3, a4, a5⟩ := p.1 a ha
    exact ⟨a1.trans (N_K (by omega)), a2.trans (N_L (by omega)), a3.trans (N_I (by omega)), a4.trans (N_J (by omega)), a5.trans (N_D (by omega))⟩
  · rw [R_R, q_ua hr2, p.2 a ha (by omega), N_R (by omega)]
  · rw [R_R, q_un (fun e => hj e.2), p.2 r hr (by omega), N_R (by omega)]
  · rw [R_R, q_us]
theorem stI_pr {t r a j : Nat} {v : Int32} (ha : t ≤ a) : PV μ (stI μ a j v) t r := ⟨fun b hb => ⟨rfl, rfl, by rw [q_iI, q_ua (by omega)], rfl, rfl⟩, fun _ _ _ => rfl⟩
/-- a table -/
theorem a6 {t lim : Nat} (hN : gN μ = t + 1) (hk : gK μ t = 6) (h23 : 23 ≤ t) (hl : lim ≤ 12) : ∃ μ', F_X6_init t (nI lim) μ = some μ' ∧ PV μ μ' t t ∧ gN μ' = t + 2 ∧ ST μ' t ∧ gI μ' t 1 = nI lim ∧ gI μ' t 2 = gI μ t 2 ∧ gL μ' t = gL μ t := by
  obtain ⟨p1, p2, p3, p4, p5, p6, p7⟩ := al_arr (μ := μ) (r := t) (k := 0) (kd := 101) (n := 60) hN (by omega)
  have k6 : gK (stR (stN μ 101 60) t 0 (t + 1)) t = 6 := by rw [p1.k (by omega)]; exact hk
  have pI : PV (stR (stN μ 101 60) t 0 (t + 1)) (stI (stR (stN μ 101 60) t 0 (t + 1)) t 1 (nI lim)) t t := stI_pr (Nat.le_refl _)
  refine ⟨stI (stR (stN μ 101 60) t 0 (t + 1)) t 1 (nI lim), ?_, PV.lo (PV.trans (PV.lo p1 (u := t) (q := t) (by omega) (by omega)) pI (Nat.le_refl _)) (Nat.le_refl _) (Nat.le_refl _), p7, ⟨k6, p3, p4, p5⟩, by rw [q_iI, q_us], by rw [q_iI, q_un (by omega), p1.i (by omega)], p1.l (by omega)⟩
  have hne : gK μ t ≠ 0 := by rw [hk]; decide
  have k6' : gK (stN μ 101 60) t = 6 := by rw [N_K (by omega)]; exact hk
  by_cases h12 : lim = 12
  · subst h12
    simp (disch := first | assumption | omega) only [q_bl, q_baT, q_bi, q_ba, q_pr, q_ob, q_iT, q_iN, q_it, q_if, q_of, nI_add, pk_mul, pk_sub, nI_leI, nI_ltI, nI_eq, nI_clamp, nI_lt0, nI_eqm, m1_eq, true_or, or_true, not_false_eq_true, m1_lt, m1_nlt, m1_le, m1_nle, b01, b011, q_em, q_m1, n_0, n_1, n_2, n_3, n_4, n_5, n_6, n_7, n_8, n_9, n_10, n_11, n_12, n_14, n_15, n_16, n_20, n_24, n_25, n_32, n_36, n_40, n_41, n_42, n_43, n_45, n_46, n_48, n_57, n_59, n_60, n_73, n_76, n_97, n_99, n_100, n_106, n_109, n_120, n_122, n_136, n_160, n_176, n_200, n_255, n_800, n_1000, n_1001, n_1002, n_1003, n_1006, n_1012, n_1018, n_1019, n_1020, n_1100, n_1140, n_4800, n_4920, n_5940, n_6740, n_20220, F_X6_init, hne, hN, k6', k6]
  · simp (disch := first | assumption | omega) only [q_bl, q_baT, q_bi, q_ba, q_pr, q_ob, q_iT, q_iN, q_it, q_if, q_of, nI_add, pk_mul, pk_sub, nI_leI, nI_ltI, nI_eq, nI_clamp, nI_lt0, nI_eqm, m1_eq, true_or, or_true, not_false_eq_true, m1_lt, m1_nlt, m1_le, m1_nle, b01, b011, q_em, q_m1, n_0, n_1, n_2, n_3, n_4, n_5, n_6, n_7, n_8, n_9, n_10, n_11, n_12, n_14, n_15, n_16, n_20, n_24, n_25, n_32, n_36, n_40, n_41, n_42, n_43, n_45, n_46, n_48, n_57, n_59, n_60, n_73, n_76, n_97, n_99, n_100, n_106, n_109, n_120, n_122, n_136, n_160, n_176, n_200, n_255, n_800, n_1000, n_1001, n_1002, n_1003, n_1006, n_1012, n_1018, n_1019, n_1020, n_1100, n_1140, n_4800, n_4920, n_5940, n_6740, n_20220, F_X6_init, hne, hN, k6', k6]
/-- a deck -/
theorem a2 {d : Nat} (hN : gN μ = d + 1) (hk : gK μ d = 2) (h23 : 23 ≤ d) : ∃ μ', F_X2_init d μ = some μ' ∧ PV μ μ' d d ∧ gN μ' = d + 2 ∧ SD μ' d ∧ gI μ' d = gI μ d ∧ gL μ' d = gL μ d := by
  obtain ⟨p1, p2, p3, p4, p5, p6, p7⟩ := al_arr (μ := μ) (r := d) (k := 0) (kd := 101) (n := 800) hN (by omega)
  have k6 : gK (stR (stN μ 101 800) d 0 (d + 1)) d = 2 := by rw [p1.k (by omega)]; exact hk
  refine ⟨_, ?_, PV.lo p1 (by omega) (Nat.le_refl _), p7, ⟨k6, p3, p4, p5⟩, p1.i (by omega), p1.l (by omega)⟩
  have hne : gK μ d ≠ 0 := by rw [hk]; decide
  have k6' : gK (stN μ 101 800) d = 2 := by rw [N_K (by omega)]; exact hk
  simp (disch := first | assumption | omega) only [q_bl, q_baT, q_bi, q_ba, q_pr, q_ob, q_iT, q_iN, q_it, q_if, q_of, nI_add, pk_mul, pk_sub, nI_leI, nI_ltI, nI_eq, nI_clamp, nI_lt0, nI_eqm, m1_eq, true_or, or_true, not_false_eq_true, m1_lt, m1_nlt, m1_le, m1_nle, b01, b011, q_em, q_m1, n_0, n_1, n_2, n_3, n_4, n_5, n_6, n_7, n_8, n_9, n_10, n_11, n_12, n_14, n_15, n_16, n_20, n_24, n_25, n_32, n_36, n_40, n_41, n_42, n_43, n_45, n_46, n_48, n_57, n_59, n_60, n_73, n_76, n_97, n_99, n_100, n_106, n_109, n_120, n_122, n_136, n_160, n_176, n_200, n_255, n_800, n_1000, n_1001, n_1002, n_1003, n_1006, n_1012, n_1018, n_1019, n_1020, n_1100, n_1140, n_4800, n_4920, n_5940, n_6740, n_20220, F_X2_init, hne, hN, k6']
/-- a paper -/
theorem a4 {d : Nat} (hN : gN μ = d + 1) (hk : gK μ d = 4) (h23 : 23 ≤ d) : ∃ μ', F_X4_init d μ = some μ' ∧ PV μ μ' d d ∧ gN μ' = d + 3 ∧ SP μ' d ∧ gI μ' d = gI μ d ∧ gL μ' d = gL μ d := by
  obtain ⟨p1, p2, p3, p4, p5, p6, p7⟩ := al_arr (μ := μ) (r := d) (k := 0) (kd := 101) (n := 4800) hN (by omega)
  have k6 : gK (stR (stN μ 101 4800) d 0 (d + 1)) d = 4 := by rw [p1.k (by omega)]; exact hk
  have hne : gK μ d ≠ 0 := by rw [hk]; decide
  have k6' : gK (stN μ 101 4800) d = 4 := by rw [N_K (by omega)]; exact hk
  generalize hm : stR (stN μ 101 4800) d 0 (d + 1) = μa at *
  obtain ⟨q1, q2, q3, q4, q5, q6, q7⟩ := al_arr (μ := μa) (r := d) (k := 1) (kd := 101) (n := 120) p7 (by omega)
  have k7' : gK (stN μa 101 120) d = 4 := by rw [N_K (by omega)]; exact k6
  have k8 : gK (stR (stN μa 101 120) d 1 (d + 2)) d = 4 := by rw [q1.k (by omega)]; exact k6
  refine ⟨_, ?_, PV.lo (p1.trans q1 (by omega)) (by omega) (Nat.le_refl _), q7, ⟨k8, ?_, q3, ?_, ?_, q4, q5⟩, (q1.i (by omega)).trans (p1.i (by omega)), (q1.l (by omega)).trans (p1.l (by omega))⟩
  · simp (disch := first | assumption | omega) only [q_bl, q_baT, q_bi, q_ba, q_pr, q_ob, q_iT, q_iN, q_it, q_if, q_of, nI_add, pk_mul, pk_sub, nI_leI, nI_ltI, nI_eq, nI_clamp, nI_lt0, nI_eqm, m1_eq, true_or, or_true, not_false_eq_true, m1_lt, m1_nlt, m1_le, m1_nle, b01, b011, q_em, q_m1, n_0, n_1, n_2, n_3, n_4, n_5, n_6, n_7, n_8, n_9, n_10, n_11, n_12, n_14, n_15, n_16, n_20, n_24, n_25, n_32, n_36, n_40, n_41, n_42, n_43, n_45, n_46, n_48, n_57, n_59, n_60, n_73, n_76, n_97, n_99, n_100, n_106, n_109, n_120, n_122, n_136, n_160, n_176, n_200, n_255, n_800, n_1000, n_1001, n_1002, n_1003, n_1006, n_1012, n_1018, n_1019, n_1020, n_1100, n_1140, n_4800, n_4920, n_5940, n_6740, n_20220, F_X4_init, hne, hN, k6', hm, p7, k7']
  · rw [q2 0 (by decide)]; exact p3
  · rw [q1.k (by omega)]; exact p4
  · rw [q1.l (by omega)]; exact p5
theorem al_t {r k lim t : Nat} (ht : gN μ = t) (hr : r < t) (h23 : 23 ≤ t) (hk : gK μ r = 1) (hl : lim ≤ 12) : ∃ μ6, F_X6_init t (nI lim) (stN μ 6 0) = some μ6 ∧ gK μ6 r = 1 ∧ gK (stR μ6 r k t) r = 1 ∧ PV μ (stR μ6 r k t) t r ∧ (∀ j, ¬ j = k → gR (stR μ6 r k t) r j = gR μ r j) ∧ gR (stR μ6 r k t) r k = t ∧ gN (stR μ6 r k t) = t + 2 ∧ ST (stR μ6 r k t) t ∧ gI (stR μ6 r k t) t 1 = nI lim ∧ gI (stR μ6 r k t) t 2 = nI 0 ∧ gL (stR μ6 r k t) t = 0 := by
  obtain ⟨μ6, e1, e2, e3, e4, e5, e6, e7⟩ := a6 (μ := stN μ 6 0) (t := t) (lim := lim) (by rw [N_N, ht]) (N_Ks ht.symm) h23 hl
  obtain ⟨o1, o2, o3, o4, o5⟩ := al_obj (k := k) ht hr e2 e3
  have kr : gK μ6 r = 1 := by rw [e2.k hr, N_K (by omega)]; exact hk
  refine ⟨μ6, e1, kr, kr, o1, o2, o3, o5, ?_, e5, ?_, ?_⟩
  · unfold ST
    rw [o4 t (by omega)]; exact e4
  · show gI μ6 t 2 = _
    rw [e6, N_Is ht.symm]
  · show gL μ6 t = _
    rw [e7, N_Ls ht.symm]
end ALC

/-! LAYER 3: a new reader, a new Tabulator -/
section NW4
variable {μ ν : Mem}
theorem al_arrK2 {r k kd n t ko : Nat} (ht : gN μ = t) (hr : r < t) (hk : gK μ r = ko) : gK (stN μ kd n) r = ko ∧ gK (stR (stN μ kd n) r k t) r = ko ∧ gR (stR (stN μ kd n) r k t) t = (fun _ => 0) := by
  have e : gK (stN μ kd n) r = ko := by rw [N_K (by omega)]; exact hk
  refine ⟨e, e, ?_⟩
  rw [R_R, q_ua (by omega)]
  funext j
  exact if_pos ht.symm
theorem oc1 {r k t ko : Nat} (ht : gN μ = t) (hr : r < t) (h23 : 23 ≤ t) (hk : gK μ r = ko) : ∃ ν, F_X1_init t (stN μ 1 0) = some ν ∧ gK ν r = ko ∧ gK (stR ν r k t) r = ko ∧ PV μ (stR ν r k t) t r ∧ (∀ j, ¬ j = k → gR (stR ν r k t) r j = gR μ r j) ∧ gR (stR ν r k t) r k = t ∧ gN (stR ν r k t) = t + 18 ∧ SB (stR ν r k t) t ∧ (∀ k, k < 8 → gI ν (t + 1 + 2 * k) 2 = nI 0 ∧ gI ν (t + 1 + 2 * k) 1 = nI (lms.getD k 0) ∧ gL ν (t + 1 + 2 * k) = 0) := by
  obtain ⟨ν, e1, e2, e3, e4, e5⟩ := a1 (μ := stN μ 1 0) (b := t) (by rw [N_N, ht]) (N_Ks ht.symm) h23
  obtain ⟨o1, o2, o3, o4, o5⟩ := al_obj (k := k) ht hr e2 e3
  have kr : gK ν r = ko := by rw [e2.k hr, N_K (by omega)]; exact hk
  exact ⟨ν, e1, kr, kr, o1, o2, o3, o5, e4.str hr, e5.1⟩
theorem oc2 {r k t ko : Nat} (ht : gN μ = t) (hr : r < t) (h23 : 23 ≤ t) (hk : gK μ r = ko) : ∃ ν, F_X2_init t (stN μ 2 0) = some ν ∧ gK ν r = ko ∧ gK (stR ν r k t) r = ko ∧ PV μ (stR ν r k t) t r ∧ (∀ j, ¬ j = k → gR (stR ν r k t) r j = gR μ r j) ∧ gR (stR ν r k t) r k = t ∧ gN (stR ν r k t) = t + 2 ∧ SD (stR ν r k t) t := by
  obtain ⟨ν, e1, e2, e3, e4, e5⟩ := a2 (μ := stN μ 2 0) (d := t) (by rw [N_N, ht]) (N_Ks ht.symm) h23
  obtain ⟨o1, o2, o3, o4, o5⟩ := al_obj (k := k) ht hr e2 e3
  have kr : gK ν r = ko := by rw [e2.k hr, N_K (by omega)]; exact hk
  exact ⟨ν, e1, kr, kr, o1, o2, o3, o5, by unfold SD; rw [o4 t (by omega)]; exact e4⟩
theorem oc3 {r k t ko : Nat} (ht : gN μ = t) (hr : r < t) (h23 : 23 ≤ t) (hk : gK μ r = ko) : ∃ ν, F_X3_init t (stN μ 3 0) = some ν ∧ gK ν r = ko ∧ gK (stR ν r k t) r = ko ∧ PV μ (stR ν r k t) t r ∧ (∀ j, ¬ j = k → gR (stR ν r k t) r j = gR μ r j) ∧ gR (stR ν r k t) r k = t ∧ gN (stR ν r k t) = t + 31 ∧ SM (stR ν r k t) t ∧ gI (stR ν r k t) t = (fun _ => nI 0) ∧ NM (gI (stR ν r k t)) t := by
  obtain ⟨ν, e1, e2, e3, e4, e5⟩ := a3 (μ := stN μ 3 0) (r := t) (by rw [N_N, ht]) (N_Ks ht.symm) h23 (N_Ls ht.symm)
  obtain ⟨o1, o2, o3, o4, o5⟩ := al_obj (k := k) ht hr e2 e3
  have kr : gK ν r = ko := by rw [e2.k hr, N_K (by omega)]; exact hk
  exact ⟨ν, e1, kr, kr, o1, o2, o3, o5, e4.ext (fun a a1 a2 => ⟨rfl, rfl, o4 a (by omega)⟩), e5.1.trans (N_Is ht.symm), e5.2⟩
theorem bk5 {d k : Nat} (hk : k < 8) : d + 5 + 1 + 2 * k < d + 23 := by omega
theorem a5 {d : Nat} (hN : gN μ = d + 1) (hk : gK μ d = 5) (h23 : 23 ≤ d) : ∃ μ', F_X5_init d μ = some μ' ∧ PV μ μ' d d ∧ gN μ' = d + 25 ∧ RDS μ' d ∧ gI μ' d = gI μ d ∧ (∀ k, k < 8 → gI μ' (d + 5 + 1 + 2 * k) 1 = nI (lms.getD k 0)) ∧ gI μ' (d + 1) = (fun _ => nI 0) := by
  have hne : gK μ d ≠ 0 := by rw [hk]; decide
  obtain ⟨p0, r0, v0, t0, l0, c0, n0⟩ := al_arr (μ := μ) (r := d) (k := 0) (kd := 101) (n := 1100) (t := d + 1) (show gN μ = d + 1 from hN) (b0t (by decide))
  obtain ⟨q0, k0, z0⟩ := al_arrK2 (μ := μ) (r := d) (k := 0) (kd := 101) (n := 1100) (t := d + 1) (show gN μ = d + 1 from hN) (b0t (by decide)) hk
  generalize m0 : stR (stN μ 101 1100) d 0 (d + 1) = μ1 at *
  obtain ⟨p1, r1, v1, t1, l1, c1, n1⟩ := al_arr (μ := μ1) (r := d) (k := 8) (kd := 102) (n := 20) (t := d + 2) (show gN μ1 = d + 2 from n0) (b0t (by decide))
  obtain ⟨q1, k1, z1⟩ := al_arrK2 (μ := μ1) (r := d) (k := 8) (kd := 102) (n := 20) (t := d + 2) (show gN μ1 = d + 2 from n0) (b0t (by decide)) k0
  generalize m1 : stR (stN μ1 102 20) d 8 (d + 2) = μ2 at *
  obtain ⟨p2, r2, v2, t2, l2, c2, n2⟩ := al_arr (μ := μ2) (r := d) (k := 9) (kd := 101) (n := 20) (t := d + 3) (show gN μ2 = d + 3 from n1) (b0t (by decide))
  obtain ⟨q2, k2, z2⟩ := al_arrK2 (μ := μ2) (r := d) (k := 9) (kd := 101) (n := 20) (t := d + 3) (show gN μ2 = d + 3 from n1) (b0t (by decide)) k1
  generalize m2 : stR (stN μ2 101 20) d 9 (d + 3) = μ3 at *
  obtain ⟨p3, r3, v3, t3, l3, c3, n3⟩ := al_arr (μ := μ3) (r := d) (k := 10) (kd := 101) (n := 20) (t := d + 4) (show gN μ3 = d + 4 from n2) (b0t (by decide))
  obtain ⟨q3, k3, z3⟩ := al_arrK2 (μ := μ3) (r := d) (k := 10) (kd := 101) (n := 20) (t := d + 4) (show gN μ3 = d + 4 from n2) (b0t (by decide)) k2
  generalize m3 : stR (stN μ3 101 20) d 10 (d + 4) = μ4 at *
  obtain ⟨ν4, e4, q4, k4, p4, r4, v4, n4, f4_0, f4_1⟩ := oc1 (μ := μ4) (r := d) (k := 15) (t := d + 5) (show gN μ4 = d + 5 from n3) (b0t (by decide)) (Nat.le_trans h23 (Nat.le_add_right _ _)) k3
  have f4_2 : ∀ k, k < 8 → gI (stR ν4 d 15 (d + 5)) (d + 5 + 1 + 2 * k) 1 = nI (lms.getD k 0) := fun k hk => (f4_1 k hk).2.1
  clear f4_1
  generalize m4 : stR ν4 d 15 (d + 5) = μ5 at *
  obtain ⟨ν5, e5, q5, k5, p5, r5, v5, n5, f5_0⟩ := oc2 (μ := μ5) (r := d) (k := 16) (t := d + 23) (show gN μ5 = d + 23 from n4) (b0t (by decide)) (Nat.le_trans h23 (Nat.le_add_right _ _)) k4
  generalize m5 : stR ν5 d 16 (d + 23) = μ6 at *
  have x6 : PV μ6 μ6 (d + 25) d := PV.same
  have x5 : PV μ5 μ6 (d + 23) d := p5.trans x6 (ble (by decide))
  have x4 : PV μ4 μ6 (d + 5) d := p4.trans x5 (ble (by decide))
  have x3 : PV μ3 μ6 (d + 4) d := p3.trans x4 (ble (by decide))
  have x2 : PV μ2 μ6 (d + 3) d := p2.trans x3 (ble (by decide))
  have x1 : PV μ1 μ6 (d + 2) d := p1.trans x2 (ble (by decide))
  have x0 : PV μ μ6 (d + 1) d := p0.trans x1 (ble (by decide))
  refine ⟨μ6, ?_, x0.lo (Nat.le_add_right _ _) (Nat.le_refl _), n5, ⟨k5, (by show gR μ6 d 0 = _; rw [r5 0 (by decide), r4 0 (by decide), r3 0 (by decide), r2 0 (by decide), r1 0 (by decide)]; exact v0), (by show gR μ6 d 8 = _; rw [r5 8 (by decide), r4 8 (by decide), r3 8 (by decide), r2 8 (by decide)]; exact v1), (by show gR μ6 d 9 = _; rw [r5 9 (by decide), r4 9 (by decide), r3 9 (by decide)]; exact v2), (by show gR μ6 d 10 = _; rw [r5 10 (by decide), r4 10 (by decide)]; exact v3), (by show gR μ6 d 15 = _; rw [r5 15 (by decide)]; exact v4), (by show gR μ6 d 16 = _; exact v5), (x1.k (blt (by decide))).trans t0, (x1.l (blt (by decide))).trans l0, (x2.k (blt (by decide))).trans t1, (x2.l (blt (by decide))).trans l1, (x3.k (blt (by decide))).trans t2, (x3.l (blt (by decide))).trans l2, (x4.k (blt (by decide))).trans t3, (x4.l (blt (by decide))).trans l3, f4_0.pr x5 (Nat.le_refl _) (b0t (by decide)), f5_0⟩, x0.i (b0t (by decide)), fun k hk => by rw [x5.i (bk5 hk)]; exact f4_2 k hk, (x1.i (blt (by decide))).trans c0⟩
  clear p0 r0 v0 t0 l0 c0 z0 p1 r1 v1 t1 l1 c1 z1 p2 r2 v2 t2 l2 c2 z2 p3 r3 v3 t3 l3 c3 z3 f4_0 f4_2 p4 r4 v4 f5_0 p5 r5 v5 x0 x1 x2 x3 x4 x5 x6
  simp (disch := first | assumption | omega) only [q_bl, q_baT, q_bi, q_ba, q_pr, q_ob, q_iT, q_iN, q_it, q_if, q_of, nI_add, pk_mul, pk_sub, nI_leI, nI_ltI, nI_eq, nI_clamp, nI_lt0, nI_eqm, m1_eq, true_or, or_true, not_false_eq_true, m1_lt, m1_nlt, m1_le, m1_nle, b01, b011, q_em, q_m1, n_0, n_1, n_2, n_3, n_4, n_5, n_6, n_7, n_8, n_9, n_10, n_11, n_12, n_14, n_15, n_16, n_20, n_24, n_25, n_32, n_36, n_40, n_41, n_42, n_43, n_45, n_46, n_48, n_57, n_59, n_60, n_73, n_76, n_97, n_99, n_100, n_106, n_109, n_120, n_122, n_136, n_160, n_176, n_200, n_255, n_800, n_1000, n_1001, n_1002, n_1003, n_1006, n_1012, n_1018, n_1019, n_1020, n_1100, n_1140, n_4800, n_4920, n_5940, n_6740, n_20220, F_X5_init, hne, hN, q0, m0, n0, q1, m1, n1, q2, m2, n2, q3, m3, n3, e4, q4, m4, n4, e5, q5, m5, n5]
theorem RDS.str {r k v t : Nat} (h : RDS ν t) (hr : r < t) : RDS (stR ν r k v) t := h.ext (fun a a1 a2 => ⟨rfl, rfl, by rw [R_R, q_ua (by omega)]⟩)
theorem oc5 {r k t ko : Nat} (ht : gN μ = t) (hr : r < t) (h23 : 23 ≤ t) (hk : gK μ r = ko) : ∃ ν, F_X5_init t (stN μ 5 0) = some ν ∧ gK ν r = ko ∧ gK (stR ν r k t) r = ko ∧ PV μ (stR ν r k t) t r ∧ (∀ j, ¬ j = k → gR (stR ν r k t) r j = gR μ r j) ∧ gR (stR ν r k t) r k = t ∧ gN (stR ν r k t) = t + 25 ∧ RDS (stR ν r k t) t ∧ gI (stR ν r k t) t = (fun _ => nI 0) ∧ ((∀ j, j < 8 → gI (stR ν r k t) (t + 5 + 1 + 2 * j) 1 = nI (lms.getD j 0)) ∧ gI (stR ν r k t) (t + 1) = (fun _ => nI 0)) := by
  obtain ⟨ν, e1, e2, e3, e4, e5⟩ := a5 (μ := stN μ 5 0) (d := t) (by rw [N_N, ht]) (N_Ks ht.symm) h23
  obtain ⟨o1, o2, o3, o4, o5⟩ := al_obj (k := k) ht hr e2 e3
  have kr : gK ν r = ko := by rw [e2.k hr, N_K (by omega)]; exact hk
  exact ⟨ν, e1, kr, kr, o1, o2, o3, o5, e4.str hr, e5.1.trans (N_Is ht.symm), e5.2⟩
theorem SM.pr {μ' : Mem} {t u r : Nat} (h : SM μ t) (p : PV μ μ' u r) (e : t + 31 ≤ u) (e2 : r < t) : SM μ' t := h.ext (fun a a1 a2 => ⟨p.k (by omega), p.l (by omega), p.2 a (by omega) (by omega)⟩)
theorem RDS.pr {μ' : Mem} {t u r : Nat} (h : RDS μ t) (p : PV μ μ' u r) (e : t + 25 ≤ u) (e2 : r < t) : RDS μ' t := h.ext (fun a a1 a2 => ⟨p.k (by omega), p.l (by omega), p.2 a (by omega) (by omega)⟩)
theorem NM.pr {μ' : Mem} {t u r : Nat} (h : NM (gI μ) t) (p : PV μ μ' u r) (e : t + 31 ≤ u) : NM (gI μ') t := by
  obtain ⟨h1, h2, h3, h4, h5, h6, h7, h8, h9⟩ := h
  exact ⟨fun k hk => by rw [p.i (by omega)]; exact h1 k hk, fun j hj => by rw [p.i (by omega)]; exact h2 j hj, (p.i (by omega)).trans h3, (p.i (by omega)).trans h4, (p.i (by omega)).trans h5, (p.i (by omega)).trans h6, (p.i (by omega)).trans h7, (p.i (by omega)).trans h8, (p.i (by omega)).trans h9⟩
theorem bk7 {x k : Nat} (hk : k < 8) : x + 1 + 5 + 1 + 2 * k < x + 26 := by omega
theorem a7 {x : Nat} (hN : gN μ = x + 1) (hk : gK μ x = 7) (h23 : 23 ≤ x) : ∃ μ', F_X8_init x μ = some μ' ∧ PV μ μ' x x ∧ gN μ' = x + 120 ∧ (gK μ' x = 7 ∧ gR μ' x 0 = x + 1 ∧ gR μ' x 1 = x + 26 ∧ gR μ' x 2 = x + 57 ∧ gR μ' x 3 = x + 88 ∧ gR μ' x 4 = x + 119 ∧ SM μ' (x + 26) ∧ SM μ' (x + 57) ∧ SM μ' (x + 88) ∧ gK μ' (x + 119) = 105 ∧ gL μ' (x + 119) = 3 ∧ RDS μ' (x + 1)) ∧ gR μ' (x + 119) = (fun _ => 0) ∧ gI μ' (x + 26) = (fun _ => nI 0) ∧ NM (gI μ') (x + 26) ∧ gI μ' (x + 1) = (fun _ => nI 0) ∧ (∀ k, k < 8 → gI μ' (x + 1 + 5 + 1 + 2 * k) 1 = nI (lms.getD k 0)) := by
  have hne : gK μ x ≠ 0 := by rw [hk]; decide
  obtain ⟨ν0, e0, q0, k0, p0, r0, v0, n0, f0_0, f0_1, f0_2⟩ := oc5 (μ := μ) (r := x) (k := 0) (t := x + 1) (show gN μ = x + 1 from hN) (b0t (by decide)) (Nat.le_trans h23 (Nat.le_add_right _ _)) hk
  generalize m0 : stR ν0 x 0 (x + 1) = μ1 at *
  obtain ⟨ν1, e1, q1, k1, p1, r1, v1, n1, f1_0, f1_1, f1_2⟩ := oc3 (μ := μ1) (r := x) (k := 1) (t := x + 26) (show gN μ1 = x + 26 from n0) (b0t (by decide)) (Nat.le_trans h23 (Nat.le_add_right _ _)) k0
  generalize m1 : stR ν1 x 1 (x + 26) = μ2 at *
  obtain ⟨ν2, e2, q2, k2, p2, r2, v2, n2, f2_0, f2_1, f2_2⟩ := oc3 (μ := μ2) (r := x) (k := 2) (t := x + 57) (show gN μ2 = x + 57 from n1) (b0t (by decide)) (Nat.le_trans h23 (Nat.le_add_right _ _)) k1
  generalize m2 : stR ν2 x 2 (x + 57) = μ3 at *
  obtain ⟨ν3, e3, q3, k3, p3, r3, v3, n3, f3_0, f3_1, f3_2⟩ := oc3 (μ := μ3) (r := x) (k := 3) (t := x + 88) (show gN μ3 = x + 88 from n2) (b0t (by decide)) (Nat.le_trans h23 (Nat.le_add_right _ _)) k2
  generalize m3 : stR ν3 x 3 (x + 88) = μ4 at *
  obtain ⟨p4, r4, v4, t4, l4, c4, n4⟩ := al_arr (μ := μ4) (r := x) (k := 4) (kd := 105) (n := 3) (t := x + 119) (show gN μ4 = x + 119 from n3) (b0t (by decide))
  obtain ⟨q4, k4, z4⟩ := al_arrK2 (μ := μ4) (r := x) (k := 4) (kd := 105) (n := 3) (t := x + 119) (show gN μ4 = x + 119 from n3) (b0t (by decide)) k3
  generalize m4 : stR (stN μ4 105 3) x 4 (x + 119) = μ5 at *
  have x5 : PV μ5 μ5 (x + 120) x := PV.same
  have x4 : PV μ4 μ5 (x + 119) x := p4.trans x5 (ble (by decide))
  have x3 : PV μ3 μ5 (x + 88) x := p3.trans x4 (ble (by decide))
  have x2 : PV μ2 μ5 (x + 57) x := p2.trans x3 (ble (by decide))
  have x1 : PV μ1 μ5 (x + 26) x := p1.trans x2 (ble (by decide))
  have x0 : PV μ μ5 (x + 1) x := p0.trans x1 (ble (by decide))
  refine ⟨μ5, ?_, x0.lo (Nat.le_add_right _ _) (Nat.le_refl _), n4, ⟨k4, (by show gR μ5 x 0 = _; rw [r4 0 (by decide), r3 0 (by decide), r2 0 (by decide), r1 0 (by decide)]; exact v0), (by show gR μ5 x 1 = _; rw [r4 1 (by decide), r3 1 (by decide), r2 1 (by decide)]; exact v1), (by show gR μ5 x 2 = _; rw [r4 2 (by decide), r3 2 (by decide)]; exact v2), (by show gR μ5 x 3 = _; rw [r4 3 (by decide)]; exact v3), (by show gR μ5 x 4 = _; exact v4), f1_0.pr x2 (Nat.le_refl _) (b0t (by decide)), f2_0.pr x3 (Nat.le_refl _) (b0t (by decide)), f3_0.pr x4 (Nat.le_refl _) (b0t (by decide)), t4, l4, f0_0.pr x1 (Nat.le_refl _) (b0t (by decide))⟩, z4, (x2.i (blt (by decide))).trans f1_1, f1_2.pr x2 (Nat.le_refl _), (x1.i (blt (by decide))).trans f0_1, fun k hk => by rw [x1.i (bk7 hk)]; exact f0_2.1 k hk⟩
  clear f0_0 f0_1 f0_2 p0 r0 v0 f1_0 f1_1 f1_2 p1 r1 v1 f2_0 f2_1 f2_2 p2 r2 v2 f3_0 f3_1 f3_2 p3 r3 v3 p4 r4 v4 t4 l4 c4 z4 x0 x1 x2 x3 x4 x5
  simp (disch := first | assumption | omega) only [q_bl, q_baT, q_bi, q_ba, q_pr, q_ob, q_iT, q_iN, q_it, q_if, q_of, nI_add, pk_mul, pk_sub, nI_leI, nI_ltI, nI_eq, nI_clamp, nI_lt0, nI_eqm, m1_eq, true_or, or_true, not_false_eq_true, m1_lt, m1_nlt, m1_le, m1_nle, b01, b011, q_em, q_m1, n_0, n_1, n_2, n_3, n_4, n_5, n_6, n_7, n_8, n_9, n_10, n_11, n_12, n_14, n_15, n_16, n_20, n_24, n_25, n_32, n_36, n_40, n_41, n_42, n_43, n_45, n_46, n_48, n_57, n_59, n_60, n_73, n_76, n_97, n_99, n_100, n_106, n_109, n_120, n_122, n_136, n_160, n_176, n_200, n_255, n_800, n_1000, n_1001, n_1002, n_1003, n_1006, n_1012, n_1018, n_1019, n_1020, n_1100, n_1140, n_4800, n_4920, n_5940, n_6740, n_20220, F_X8_init, hne, hN, e0, q0, m0, n0, e1, q1, m1, n1, e2, q2, m2, n2, e3, q3, m3, n3, q4, m4, n4]
end NW4

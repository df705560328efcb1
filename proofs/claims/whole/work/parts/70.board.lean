/-! LAYER 3: a new plugboard, a new machine -/
theorem ble {b m n : Nat} (h : m ≤ n) : b + m ≤ b + n := Nat.add_le_add_left h b
theorem blt {b m n : Nat} (h : m < n) : b + m < b + n := Nat.add_lt_add_left h b
theorem b0t {b n : Nat} (h : 0 < n) : b < b + n := Nat.lt_add_of_pos_right h
theorem bne {b n : Nat} (h : 0 < n) : ¬ b + n = b := Nat.ne_of_gt (Nat.lt_add_of_pos_right h)
theorem stF_pv {μ : Mem} {a lo hi t r : Nat} {v : Int32} (ha : t ≤ a) : PV μ (stF μ a lo hi v) t r := ⟨fun b hb => ⟨rfl, rfl, q_iFo (by omega), rfl, rfl⟩, fun _ _ _ => rfl⟩
section NEW
variable {μ : Mem}
theorem a1 {b : Nat} (hN : gN μ = b + 1) (hk : gK μ b = 1) (h23 : 23 ≤ b) : ∃ μ', F_X1_init b μ = some μ' ∧ PV μ μ' b b ∧ gN μ' = b + 18 ∧ SB μ' b ∧ (∀ k, k < 8 → gI μ' (b + 1 + 2 * k) 2 = nI 0 ∧ gI μ' (b + 1 + 2 * k) 1 = nI (lms.getD k 0) ∧ gL μ' (b + 1 + 2 * k) = 0) ∧ gL μ' b = gL μ b ∧ (∀ j, j < 4 → gI μ' (b + 17) j = -nI 1) := by
  have hne : gK μ b ≠ 0 := by rw [hk]; decide
  obtain ⟨ν0, e0, q0, k0, p0, r0, v0, n0, t0, l0, c0, d0⟩ := al_t (μ := μ) (r := b) (k := 0) (lim := 8) (t := b + 1) hN (b0t (by decide)) (Nat.le_trans h23 (Nat.le_add_right _ _)) hk (by decide)
  generalize m0 : stR ν0 b 0 (b + 1) = μ1 at *
  obtain ⟨ν1, e1, q1, k1, p1, r1, v1, n1, t1, l1, c1, d1⟩ := al_t (μ := μ1) (r := b) (k := 1) (lim := 6) (t := b + 3) (show gN μ1 = b + 3 from n0) (b0t (by decide)) (Nat.le_trans h23 (Nat.le_add_right _ _)) k0 (by decide)
  generalize m1 : stR ν1 b 1 (b + 3) = μ2 at *
  obtain ⟨ν2, e2, q2, k2, p2, r2, v2, n2, t2, l2, c2, d2⟩ := al_t (μ := μ2) (r := b) (k := 2) (lim := 6) (t := b + 5) (show gN μ2 = b + 5 from n1) (b0t (by decide)) (Nat.le_trans h23 (Nat.le_add_right _ _)) k1 (by decide)
  generalize m2 : stR ν2 b 2 (b + 5) = μ3 at *
  obtain ⟨ν3, e3, q3, k3, p3, r3, v3, n3, t3, l3, c3, d3⟩ := al_t (μ := μ3) (r := b) (k := 3) (lim := 12) (t := b + 7) (show gN μ3 = b + 7 from n2) (b0t (by decide)) (Nat.le_trans h23 (Nat.le_add_right _ _)) k2 (by decide)
  generalize m3 : stR ν3 b 3 (b + 7) = μ4 at *
  obtain ⟨ν4, e4, q4, k4, p4, r4, v4, n4, t4, l4, c4, d4⟩ := al_t (μ := μ4) (r := b) (k := 4) (lim := 12) (t := b + 9) (show gN μ4 = b + 9 from n3) (b0t (by decide)) (Nat.le_trans h23 (Nat.le_add_right _ _)) k3 (by decide)
  generalize m4 : stR ν4 b 4 (b + 9) = μ5 at *
  obtain ⟨ν5, e5, q5, k5, p5, r5, v5, n5, t5, l5, c5, d5⟩ := al_t (μ := μ5) (r := b) (k := 5) (lim := 8) (t := b + 11) (show gN μ5 = b + 11 from n4) (b0t (by decide)) (Nat.le_trans h23 (Nat.le_add_right _ _)) k4 (by decide)
  generalize m5 : stR ν5 b 5 (b + 11) = μ6 at *
  obtain ⟨ν6, e6, q6, k6, p6, r6, v6, n6, t6, l6, c6, d6⟩ := al_t (μ := μ6) (r := b) (k := 6) (lim := 8) (t := b + 13) (show gN μ6 = b + 13 from n5) (b0t (by decide)) (Nat.le_trans h23 (Nat.le_add_right _ _)) k5 (by decide)
  generalize m6 : stR ν6 b 6 (b + 13) = μ7 at *
  obtain ⟨ν7, e7, q7, k7, p7, r7, v7, n7, t7, l7, c7, d7⟩ := al_t (μ := μ7) (r := b) (k := 7) (lim := 8) (t := b + 15) (show gN μ7 = b + 15 from n6) (b0t (by decide)) (Nat.le_trans h23 (Nat.le_add_right _ _)) k6 (by decide)
  generalize m7 : stR ν7 b 7 (b + 15) = μ8 at *
  obtain ⟨p8, r8, v8, a8, b8, c8, n8⟩ := al_arr (μ := μ8) (r := b) (k := 8) (kd := 101) (n := 4) (t := b + 17) (show gN μ8 = b + 17 from n7) (b0t (by decide))
  have q8 : gK (stN μ8 101 4) b = 1 := by rw [N_K (by rw [n7]; exact Nat.ne_of_lt (b0t (n := 17) (by decide)))]; exact k7
  generalize m8 : stR (stN μ8 101 4) b 8 (b + 17) = μ9 at *
  have k8 : gK μ9 b = 1 := by rw [p8.k (b0t (by decide))]; exact k7
  have ef := f_fill2 (r := b + 17) (v := -nI 1) a8 (by rw [b8]; decide)
  rw [b8] at ef
  have pf : PV μ9 (stF μ9 (b + 17) 0 4 (-nI 1)) (b + 17) b := stF_pv (Nat.le_refl _)
  have x8 : PV μ8 (stF μ9 (b + 17) 0 4 (-nI 1)) (b + 17) b := p8.trans pf (Nat.le_refl _)
  have x7 : PV μ7 (stF μ9 (b + 17) 0 4 (-nI 1)) (b + 15) b := p7.trans x8 (ble (by decide))
  have x6 : PV μ6 (stF μ9 (b + 17) 0 4 (-nI 1)) (b + 13) b := p6.trans x7 (ble (by decide))
  have x5 : PV μ5 (stF μ9 (b + 17) 0 4 (-nI 1)) (b + 11) b := p5.trans x6 (ble (by decide))
  have x4 : PV μ4 (stF μ9 (b + 17) 0 4 (-nI 1)) (b + 9) b := p4.trans x5 (ble (by decide))
  have x3 : PV μ3 (stF μ9 (b + 17) 0 4 (-nI 1)) (b + 7) b := p3.trans x4 (ble (by decide))
  have x2 : PV μ2 (stF μ9 (b + 17) 0 4 (-nI 1)) (b + 5) b := p2.trans x3 (ble (by decide))
  have x1 : PV μ1 (stF μ9 (b + 17) 0 4 (-nI 1)) (b + 3) b := p1.trans x2 (ble (by decide))
  have x0 : PV μ (stF μ9 (b + 17) 0 4 (-nI 1)) (b + 1) b := p0.trans x1 (ble (by decide))
  refine ⟨stF μ9 (b + 17) 0 4 (-nI 1), ?_, x0.lo (Nat.le_add_right _ _) (Nat.le_refl _), n8, ⟨k8, fun k hk => ?_, v8, a8, b8⟩, fun k hk => ?_, x0.l (b0t (by decide)), fun j hj => ?_⟩
  · clear x0 x1 x2 x3 x4 x5 x6 x7 x8 pf p0 p1 p2 p3 p4 p5 p6 p7 p8 r0 r1 r2 r3 r4 r5 r6 r7 r8 v0 v1 v2 v3 v4 v5 v6 v7 t0 t1 t2 t3 t4 t5 t6 t7 l0 l1 l2 l3 l4 l5 l6 l7 c0 c1 c2 c3 c4 c5 c6 c7 c8 a8 b8 d0 d1 d2 d3 d4 d5 d6 d7
    simp (disch := first | assumption | omega) only [q_bl, q_baT, q_bi, q_ba, q_pr, q_ob, q_iT, q_iN, q_it, q_if, q_of, nI_add, pk_mul, pk_sub, nI_leI, nI_ltI, nI_eq, nI_clamp, nI_lt0, nI_eqm, m1_eq, true_or, or_true, not_false_eq_true, m1_lt, m1_nlt, m1_le, m1_nle, b01, b011, q_em, q_m1, n_0, n_1, n_2, n_3, n_4, n_5, n_6, n_7, n_8, n_9, n_10, n_11, n_12, n_14, n_15, n_16, n_20, n_24, n_25, n_32, n_36, n_40, n_41, n_42, n_43, n_45, n_46, n_48, n_57, n_59, n_60, n_73, n_76, n_97, n_99, n_100, n_106, n_109, n_120, n_122, n_136, n_160, n_176, n_200, n_255, n_800, n_1000, n_1001, n_1002, n_1003, n_1006, n_1012, n_1018, n_1019, n_1020, n_1100, n_1140, n_4800, n_4920, n_5940, n_6740, n_20220, F_X1_init, hne, hN, e0, q0, m0, n0, e1, q1, m1, n1, e2, q2, m2, n2, e3, q3, m3, n3, e4, q4, m4, n4, e5, q5, m5, n5, e6, q6, m6, n6, e7, q7, m7, n7, q8, m8, k8, v8, ef]
  · match k, hk with
    | 0, _ => exact ⟨by show gR μ9 b 0 = b + 1; rw [r8 0 (by decide), r7 0 (by decide), r6 0 (by decide), r5 0 (by decide), r4 0 (by decide), r3 0 (by decide), r2 0 (by decide), r1 0 (by decide)]; exact v0, t0.pr x1 (Nat.le_refl _) (bne (by decide))⟩
    | 1, _ => exact ⟨by show gR μ9 b 1 = b + 3; rw [r8 1 (by decide), r7 1 (by decide), r6 1 (by decide), r5 1 (by decide), r4 1 (by decide), r3 1 (by decide), r2 1 (by decide)]; exact v1, t1.pr x2 (Nat.le_refl _) (bne (by decide))⟩
    | 2, _ => exact ⟨by show gR μ9 b 2 = b + 5; rw [r8 2 (by decide), r7 2 (by decide), r6 2 (by decide), r5 2 (by decide), r4 2 (by decide), r3 2 (by decide)]; exact v2, t2.pr x3 (Nat.le_refl _) (bne (by decide))⟩
    | 3, _ => exact ⟨by show gR μ9 b 3 = b + 7; rw [r8 3 (by decide), r7 3 (by decide), r6 3 (by decide), r5 3 (by decide), r4 3 (by decide)]; exact v3, t3.pr x4 (Nat.le_refl _) (bne (by decide))⟩
    | 4, _ => exact ⟨by show gR μ9 b 4 = b + 9; rw [r8 4 (by decide), r7 4 (by decide), r6 4 (by decide), r5 4 (by decide)]; exact v4, t4.pr x5 (Nat.le_refl _) (bne (by decide))⟩
    | 5, _ => exact ⟨by show gR μ9 b 5 = b + 11; rw [r8 5 (by decide), r7 5 (by decide), r6 5 (by decide)]; exact v5, t5.pr x6 (Nat.le_refl _) (bne (by decide))⟩
    | 6, _ => exact ⟨by show gR μ9 b 6 = b + 13; rw [r8 6 (by decide), r7 6 (by decide)]; exact v6, t6.pr x7 (Nat.le_refl _) (bne (by decide))⟩
    | 7, _ => exact ⟨by show gR μ9 b 7 = b + 15; rw [r8 7 (by decide)]; exact v7, t7.pr x8 (Nat.le_refl _) (bne (by decide))⟩
    | k + 8, hk => exact absurd hk (by omega)
  · match k, hk with
    | 0, _ => exact ⟨by show gI _ (b + 1) 2 = _; rw [x1.i (blt (by decide))]; exact c0, by show gI _ (b + 1) 1 = _; rw [x1.i (blt (by decide))]; exact l0, by show gL _ (b + 1) = _; rw [x1.l (blt (by decide))]; exact d0⟩
    | 1, _ => exact ⟨by show gI _ (b + 3) 2 = _; rw [x2.i (blt (by decide))]; exact c1, by show gI _ (b + 3) 1 = _; rw [x2.i (blt (by decide))]; exact l1, by show gL _ (b + 3) = _; rw [x2.l (blt (by decide))]; exact d1⟩
    | 2, _ => exact ⟨by show gI _ (b + 5) 2 = _; rw [x3.i (blt (by decide))]; exact c2, by show gI _ (b + 5) 1 = _; rw [x3.i (blt (by decide))]; exact l2, by show gL _ (b + 5) = _; rw [x3.l (blt (by decide))]; exact d2⟩
    | 3, _ => exact ⟨by show gI _ (b + 7) 2 = _; rw [x4.i (blt (by decide))]; exact c3, by show gI _ (b + 7) 1 = _; rw [x4.i (blt (by decide))]; exact l3, by show gL _ (b + 7) = _; rw [x4.l (blt (by decide))]; exact d3⟩
    | 4, _ => exact ⟨by show gI _ (b + 9) 2 = _; rw [x5.i (blt (by decide))]; exact c4, by show gI _ (b + 9) 1 = _; rw [x5.i (blt (by decide))]; exact l4, by show gL _ (b + 9) = _; rw [x5.l (blt (by decide))]; exact d4⟩
    | 5, _ => exact ⟨by show gI _ (b + 11) 2 = _; rw [x6.i (blt (by decide))]; exact c5, by show gI _ (b + 11) 1 = _; rw [x6.i (blt (by decide))]; exact l5, by show gL _ (b + 11) = _; rw [x6.l (blt (by decide))]; exact d5⟩
    | 6, _ => exact ⟨by show gI _ (b + 13) 2 = _; rw [x7.i (blt (by decide))]; exact c6, by show gI _ (b + 13) 1 = _; rw [x7.i (blt (by decide))]; exact l6, by show gL _ (b + 13) = _; rw [x7.l (blt (by decide))]; exact d6⟩
    | 7, _ => exact ⟨by show gI _ (b + 15) 2 = _; rw [x8.i (blt (by decide))]; exact c7, by show gI _ (b + 15) 1 = _; rw [x8.i (blt (by decide))]; exact l7, by show gL _ (b + 15) = _; rw [x8.l (blt (by decide))]; exact d7⟩
    | k + 8, hk => exact absurd hk (by omega)
  · rw [q_iF, if_pos ⟨rfl, Nat.zero_le _, hj⟩]
end NEW

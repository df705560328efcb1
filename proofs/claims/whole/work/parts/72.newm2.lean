/-! LAYER 3: a new machine, whole -/
theorem al_arrK {μ : Mem} {r k kd n t : Nat} (ht : gN μ = t) (hr : r < t) (hk : gK μ r = 3) : gK (stN μ kd n) r = 3 ∧ gK (stR (stN μ kd n) r k t) r = 3 := by
  have e : gK (stN μ kd n) r = 3 := by rw [N_K (by omega)]; exact hk
  exact ⟨e, e⟩
/-- what a new machine holds -/
def NM (I : Nat → SA) (r : Nat) : Prop := (∀ k, k < 8 → I (r + 1 + 1 + 2 * k) 2 = nI 0) ∧ (∀ j, j < 4 → I (r + 1 + 17) j = -nI 1) ∧ I (r + 19) = (fun _ => nI 0) ∧ I (r + 21) = (fun _ => nI 0) ∧ I (r + 22) = (fun _ => nI 0) ∧ I (r + 23) = (fun _ => nI 0) ∧ I (r + 24) = (fun _ => nI 0) ∧ I (r + 26) = (fun _ => nI 0) ∧ I (r + 29) = (fun _ => nI 0)
theorem bk2 {r k : Nat} (hk : k < 8) : r + 1 + 1 + 2 * k < r + 19 := by omega
section NW2
variable {μ : Mem}
theorem a3 {r : Nat} (hN : gN μ = r + 1) (hk : gK μ r = 3) (h23 : 23 ≤ r) (hl : gL μ r = 0) : ∃ μ', F_X3_init r μ = some μ' ∧ PV μ μ' r r ∧ gN μ' = r + 31 ∧ SM μ' r ∧ gI μ' r = gI μ r ∧ NM (gI μ') r := by
  have hne : gK μ r ≠ 0 := by rw [hk]; decide
  obtain ⟨ν0, e0, q0, k0, p0, r0, v0, n0, t0, c0, d0, w0⟩ := ob1 (μ := μ) (r := r) (k := 0) (t := r + 1) (show gN μ = r + 1 from hN) (b0t (by decide)) (Nat.le_trans h23 (Nat.le_add_right _ _)) hk
  have c0' : ∀ k, k < 8 → gI (stR ν0 r 0 (r + 1)) (r + 1 + 1 + 2 * k) 2 = nI 0 := fun k hk => (c0 k hk).1
  have c0'' : ∀ k, k < 8 → gL (stR ν0 r 0 (r + 1)) (r + 1 + 1 + 2 * k) = 0 := fun k hk => (c0 k hk).2.2
  have d0' : gL (stR ν0 r 0 (r + 1)) (r + 1) = 0 := d0
  have w0' : ∀ j, j < 4 → gI (stR ν0 r 0 (r + 1)) (r + 1 + 17) j = -nI 1 := w0
  clear c0 d0 w0
  generalize m0 : stR ν0 r 0 (r + 1) = μ1 at *
  obtain ⟨ν1, e1, q1, k1, p1, r1, v1, n1, t1, c1, d1⟩ := ob2 (μ := μ1) (r := r) (k := 1) (t := r + 19) (show gN μ1 = r + 19 from n0) (b0t (by decide)) (Nat.le_trans h23 (Nat.le_add_right _ _)) k0
  generalize m1 : stR ν1 r 1 (r + 19) = μ2 at *
  obtain ⟨p2, r2, v2, t2, l2, c2, n2⟩ := al_arr (μ := μ2) (r := r) (k := 2) (kd := 101) (n := 6) (t := r + 21) (show gN μ2 = r + 21 from n1) (b0t (by decide))
  obtain ⟨q2, k2⟩ := al_arrK (μ := μ2) (r := r) (k := 2) (kd := 101) (n := 6) (t := r + 21) (show gN μ2 = r + 21 from n1) (b0t (by decide)) k1
  generalize m2 : stR (stN μ2 101 6) r 2 (r + 21) = μ3 at *
  obtain ⟨p3, r3, v3, t3, l3, c3, n3⟩ := al_arr (μ := μ3) (r := r) (k := 3) (kd := 101) (n := 6) (t := r + 22) (show gN μ3 = r + 22 from n2) (b0t (by decide))
  obtain ⟨q3, k3⟩ := al_arrK (μ := μ3) (r := r) (k := 3) (kd := 101) (n := 6) (t := r + 22) (show gN μ3 = r + 22 from n2) (b0t (by decide)) k2
  generalize m3 : stR (stN μ3 101 6) r 3 (r + 22) = μ4 at *
  obtain ⟨p4, r4, v4, t4, l4, c4, n4⟩ := al_arr (μ := μ4) (r := r) (k := 4) (kd := 103) (n := 6) (t := r + 23) (show gN μ4 = r + 23 from n3) (b0t (by decide))
  obtain ⟨q4, k4⟩ := al_arrK (μ := μ4) (r := r) (k := 4) (kd := 103) (n := 6) (t := r + 23) (show gN μ4 = r + 23 from n3) (b0t (by decide)) k3
  generalize m4 : stR (stN μ4 103 6) r 4 (r + 23) = μ5 at *
  obtain ⟨p5, r5, v5, t5, l5, c5, n5⟩ := al_arr (μ := μ5) (r := r) (k := 5) (kd := 101) (n := 4) (t := r + 24) (show gN μ5 = r + 24 from n4) (b0t (by decide))
  obtain ⟨q5, k5⟩ := al_arrK (μ := μ5) (r := r) (k := 5) (kd := 101) (n := 4) (t := r + 24) (show gN μ5 = r + 24 from n4) (b0t (by decide)) k4
  generalize m5 : stR (stN μ5 101 4) r 5 (r + 24) = μ6 at *
  obtain ⟨p6, r6, v6, t6, l6, c6, n6⟩ := al_arr (μ := μ6) (r := r) (k := 6) (kd := 102) (n := 40) (t := r + 25) (show gN μ6 = r + 25 from n5) (b0t (by decide))
  obtain ⟨q6, k6⟩ := al_arrK (μ := μ6) (r := r) (k := 6) (kd := 102) (n := 40) (t := r + 25) (show gN μ6 = r + 25 from n5) (b0t (by decide)) k5
  generalize m6 : stR (stN μ6 102 40) r 6 (r + 25) = μ7 at *
  obtain ⟨ν7, e7, q7, k7, p7, r7, v7, n7, t7, c7, d7⟩ := ob4 (μ := μ7) (r := r) (k := 7) (t := r + 26) (show gN μ7 = r + 26 from n6) (b0t (by decide)) (Nat.le_trans h23 (Nat.le_add_right _ _)) k6
  generalize m7 : stR ν7 r 7 (r + 26) = μ8 at *
  obtain ⟨ν8, e8, q8, k8, p8, r8, v8, n8, t8, c8, d8⟩ := ob2 (μ := μ8) (r := r) (k := 8) (t := r + 29) (show gN μ8 = r + 29 from n7) (b0t (by decide)) (Nat.le_trans h23 (Nat.le_add_right _ _)) k7
  generalize m8 : stR ν8 r 8 (r + 29) = μ9 at *
  have x9 : PV μ9 μ9 (r + 31) r := PV.same
  have x8 : PV μ8 μ9 (r + 29) r := p8.trans x9 (ble (by decide))
  have x7 : PV μ7 μ9 (r + 26) r := p7.trans x8 (ble (by decide))
  have x6 : PV μ6 μ9 (r + 25) r := p6.trans x7 (ble (by decide))
  have x5 : PV μ5 μ9 (r + 24) r := p5.trans x6 (ble (by decide))
  have x4 : PV μ4 μ9 (r + 23) r := p4.trans x5 (ble (by decide))
  have x3 : PV μ3 μ9 (r + 22) r := p3.trans x4 (ble (by decide))
  have x2 : PV μ2 μ9 (r + 21) r := p2.trans x3 (ble (by decide))
  have x1 : PV μ1 μ9 (r + 19) r := p1.trans x2 (ble (by decide))
  have x0 : PV μ μ9 (r + 1) r := p0.trans x1 (ble (by decide))
  refine ⟨μ9, ?_, x0.lo (Nat.le_add_right _ _) (Nat.le_refl _), n8, ?_, x0.i (b0t (by decide)), ?_⟩
  · clear x0 x1 x2 x3 x4 x5 x6 x7 x8 x9 p0 p1 p2 p3 p4 p5 p6 p7 p8 r0 r1 r2 r3 r4 r5 r6 r7 r8 v0 v1 v2 v3 v4 v5 v6 v7 v8 t0 t1 t2 t3 t4 t5 t6 t7 t8 c1 c2 c3 c4 c5 c6 c7 c8 l2 l3 l4 l5 l6 d1 d7 d8 c0' c0'' d0' w0'
    simp (disch := first | assumption | omega) only [q_bl, q_baT, q_bi, q_ba, q_pr, q_ob, q_iT, q_iN, q_it, q_if, q_of, nI_add, pk_mul, pk_sub, nI_leI, nI_ltI, nI_eq, nI_clamp, nI_lt0, nI_eqm, m1_eq, true_or, or_true, not_false_eq_true, m1_lt, m1_nlt, m1_le, m1_nle, b01, b011, q_em, q_m1, n_0, n_1, n_2, n_3, n_4, n_5, n_6, n_7, n_8, n_9, n_10, n_11, n_12, n_14, n_15, n_16, n_20, n_24, n_25, n_32, n_36, n_40, n_41, n_42, n_43, n_45, n_46, n_48, n_57, n_59, n_60, n_73, n_76, n_97, n_99, n_100, n_106, n_109, n_120, n_122, n_136, n_160, n_176, n_200, n_255, n_800, n_1000, n_1001, n_1002, n_1003, n_1006, n_1012, n_1018, n_1019, n_1020, n_1100, n_1140, n_4800, n_4920, n_5940, n_6740, n_20220, F_X3_init, hne, hN, e0, q0, m0, n0, e1, q1, m1, n1, q2, m2, n2, q3, m3, n3, q4, m4, n4, q5, m5, n5, q6, m6, n6, e7, q7, m7, n7, e8, q8, m8, n8]
  · exact SM.of h23 k8 ((x0.l (b0t (by decide))).trans hl) (t0.pr x1 (Nat.le_refl _) (b0t (by decide))) ((x1.l (blt (by decide))).trans d0') (fun k hk => (x1.l (bk2 hk)).trans (c0'' k hk)) (t1.pr x2 (Nat.le_refl _) (bne (by decide))) ((x2.l (blt (by decide))).trans d1) ⟨(x3.k (blt (by decide))).trans t2, (x3.l (blt (by decide))).trans l2⟩ ⟨(x4.k (blt (by decide))).trans t3, (x4.l (blt (by decide))).trans l3⟩ ⟨(x5.k (blt (by decide))).trans t4, (x5.l (blt (by decide))).trans l4⟩ ⟨(x6.k (blt (by decide))).trans t5, (x6.l (blt (by decide))).trans l5⟩ ⟨(x7.k (blt (by decide))).trans t6, (x7.l (blt (by decide))).trans l6⟩ (t7.pr x8 (Nat.le_refl _) (bne (by decide))) ((x8.l (blt (by decide))).trans d7) (t8.pr x9 (Nat.le_refl _) (bne (by decide))) d8 (by show gR μ9 r 0 = _; rw [r8 0 (by decide), r7 0 (by decide), r6 0 (by decide), r5 0 (by decide), r4 0 (by decide), r3 0 (by decide), r2 0 (by decide), r1 0 (by decide)]; exact v0) (by show gR μ9 r 1 = _; rw [r8 1 (by decide), r7 1 (by decide), r6 1 (by decide), r5 1 (by decide), r4 1 (by decide), r3 1 (by decide), r2 1 (by decide)]; exact v1) (by show gR μ9 r 2 = _; rw [r8 2 (by decide), r7 2 (by decide), r6 2 (by decide), r5 2 (by decide), r4 2 (by decide), r3 2 (by decide)]; exact v2) (by show gR μ9 r 3 = _; rw [r8 3 (by decide), r7 3 (by decide), r6 3 (by decide), r5 3 (by decide), r4 3 (by decide)]; exact v3) (by show gR μ9 r 4 = _; rw [r8 4 (by decide), r7 4 (by decide), r6 4 (by decide), r5 4 (by decide)]; exact v4) (by show gR μ9 r 5 = _; rw [r8 5 (by decide), r7 5 (by decide), r6 5 (by decide)]; exact v5) (by show gR μ9 r 6 = _; rw [r8 6 (by decide), r7 6 (by decide)]; exact v6) (by show gR μ9 r 7 = _; rw [r8 7 (by decide)]; exact v7) (by show gR μ9 r 8 = _; exact v8)
  · exact ⟨fun k hk => by rw [x1.i (bk2 hk)]; exact c0' k hk, fun j hj => by rw [x1.i (show r + 1 + 17 < r + 19 from (blt (by decide) : r + 18 < r + 19))]; exact w0' j hj, (x2.i (blt (by decide))).trans c1, (x3.i (blt (by decide))).trans c2, (x4.i (blt (by decide))).trans c3, (x5.i (blt (by decide))).trans c4, (x6.i (blt (by decide))).trans c5, (x8.i (blt (by decide))).trans c7, c8⟩
end NW2

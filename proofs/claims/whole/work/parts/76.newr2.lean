/-! LAYER 3: a new reference, whole -/
section NW5
variable {μ : Mem}
theorem a9 {m : Nat} (hN : gN μ = m + 1) (hk : gK μ m = 8) (h23 : 23 ≤ m) (hI : gI μ m = (fun _ => nI 0)) : ∃ μ' B, F_X9_init m μ = some μ' ∧ PV μ μ' m m ∧ gN μ' = m + 12 ∧ RA μ' m B ∧ (∀ i, i < 6740 → B i = ZR i) ∧ (∀ j, ¬ j = 9 → gI μ' m j = nI 0) ∧ gI μ' m 9 = -nI 1 ∧ gI μ' (m + 5) = (fun _ => nI 0) := by
  have hne : gK μ m ≠ 0 := by rw [hk]; decide
  obtain ⟨p0, r0, v0, t0, l0, c0, n0⟩ := al_arr (μ := μ) (r := m) (k := 0) (kd := 101) (n := 6740) (t := m + 1) (show gN μ = m + 1 from hN) (b0t (by decide))
  obtain ⟨q0, k0, z0⟩ := al_arrK2 (μ := μ) (r := m) (k := 0) (kd := 101) (n := 6740) (t := m + 1) (show gN μ = m + 1 from hN) (b0t (by decide)) hk
  generalize m0 : stR (stN μ 101 6740) m 0 (m + 1) = μ1 at *
  obtain ⟨p1, r1, v1, t1, l1, c1, n1⟩ := al_arr (μ := μ1) (r := m) (k := 1) (kd := 101) (n := 6740) (t := m + 2) (show gN μ1 = m + 2 from n0) (b0t (by decide))
  obtain ⟨q1, k1, z1⟩ := al_arrK2 (μ := μ1) (r := m) (k := 1) (kd := 101) (n := 6740) (t := m + 2) (show gN μ1 = m + 2 from n0) (b0t (by decide)) k0
  generalize m1 : stR (stN μ1 101 6740) m 1 (m + 2) = μ2 at *
  obtain ⟨p2, r2, v2, t2, l2, c2, n2⟩ := al_arr (μ := μ2) (r := m) (k := 2) (kd := 101) (n := 6740) (t := m + 3) (show gN μ2 = m + 3 from n1) (b0t (by decide))
  obtain ⟨q2, k2, z2⟩ := al_arrK2 (μ := μ2) (r := m) (k := 2) (kd := 101) (n := 6740) (t := m + 3) (show gN μ2 = m + 3 from n1) (b0t (by decide)) k1
  generalize m2 : stR (stN μ2 101 6740) m 2 (m + 3) = μ3 at *
  obtain ⟨p3, r3, v3, t3, l3, c3, n3⟩ := al_arr (μ := μ3) (r := m) (k := 3) (kd := 101) (n := 20220) (t := m + 4) (show gN μ3 = m + 4 from n2) (b0t (by decide))
  obtain ⟨q3, k3, z3⟩ := al_arrK2 (μ := μ3) (r := m) (k := 3) (kd := 101) (n := 20220) (t := m + 4) (show gN μ3 = m + 4 from n2) (b0t (by decide)) k2
  generalize m3 : stR (stN μ3 101 20220) m 3 (m + 4) = μ4 at *
  obtain ⟨p4, r4, v4, t4, l4, c4, n4⟩ := al_arr (μ := μ4) (r := m) (k := 4) (kd := 103) (n := 3) (t := m + 5) (show gN μ4 = m + 5 from n3) (b0t (by decide))
  obtain ⟨q4, k4, z4⟩ := al_arrK2 (μ := μ4) (r := m) (k := 4) (kd := 103) (n := 3) (t := m + 5) (show gN μ4 = m + 5 from n3) (b0t (by decide)) k3
  generalize m4 : stR (stN μ4 103 3) m 4 (m + 5) = μ5 at *
  obtain ⟨p5, r5, v5, t5, l5, c5, n5⟩ := al_arr (μ := μ5) (r := m) (k := 6) (kd := 101) (n := 1100) (t := m + 6) (show gN μ5 = m + 6 from n4) (b0t (by decide))
  obtain ⟨q5, k5, z5⟩ := al_arrK2 (μ := μ5) (r := m) (k := 6) (kd := 101) (n := 1100) (t := m + 6) (show gN μ5 = m + 6 from n4) (b0t (by decide)) k4
  generalize m5 : stR (stN μ5 101 1100) m 6 (m + 6) = μ6 at *
  have sK : gK (stI μ6 m 9 (-nI 1)) = gK μ6 := q_kI _ _ _ _
  have sL : gL (stI μ6 m 9 (-nI 1)) = gL μ6 := q_lI _ _ _ _
  have sR : gR (stI μ6 m 9 (-nI 1)) = gR μ6 := q_rI _ _ _ _
  have sN : gN (stI μ6 m 9 (-nI 1)) = m + 7 := (q_nI _ _ _ _).trans n5
  have sJ : gJ (stI μ6 m 9 (-nI 1)) = gJ μ6 := q_jI _ _ _ _
  have sD : gD (stI μ6 m 9 (-nI 1)) = gD μ6 := q_dI _ _ _ _
  have sI : ∀ a, ¬ a = m → gI (stI μ6 m 9 (-nI 1)) a = gI μ6 a := fun a ha => by rw [q_iI, q_ua ha]
  have sm : ∀ j, ¬ j = 9 → gI (stI μ6 m 9 (-nI 1)) m j = gI μ6 m j := fun j hj => by rw [q_iI, q_un (fun e => hj e.2)]
  have s9 : gI (stI μ6 m 9 (-nI 1)) m 9 = -nI 1 := by rw [q_iI, q_us]
  have k6 : gK (stI μ6 m 9 (-nI 1)) m = 8 := (congrFun (q_kI _ _ _ _) m).trans k5
  generalize ms : stI μ6 m 9 (-nI 1) = μ7 at *
  obtain ⟨p7, r7, v7, t7, l7, c7, n7⟩ := al_arr (μ := μ7) (r := m) (k := 19) (kd := 102) (n := 24) (t := m + 7) (show gN μ7 = m + 7 from sN) (b0t (by decide))
  obtain ⟨q7, k7, z7⟩ := al_arrK2 (μ := μ7) (r := m) (k := 19) (kd := 102) (n := 24) (t := m + 7) (show gN μ7 = m + 7 from sN) (b0t (by decide)) k6
  generalize m7 : stR (stN μ7 102 24) m 19 (m + 7) = μ8 at *
  obtain ⟨p8, r8, v8, t8, l8, c8, n8⟩ := al_arr (μ := μ8) (r := m) (k := 21) (kd := 101) (n := 40) (t := m + 8) (show gN μ8 = m + 8 from n7) (b0t (by decide))
  obtain ⟨q8, k8, z8⟩ := al_arrK2 (μ := μ8) (r := m) (k := 21) (kd := 101) (n := 40) (t := m + 8) (show gN μ8 = m + 8 from n7) (b0t (by decide)) k7
  generalize m8 : stR (stN μ8 101 40) m 21 (m + 8) = μ9 at *
  obtain ⟨p9, r9, v9, t9, l9, c9, n9⟩ := al_arr (μ := μ9) (r := m) (k := 22) (kd := 101) (n := 41) (t := m + 9) (show gN μ9 = m + 9 from n8) (b0t (by decide))
  obtain ⟨q9, k9, z9⟩ := al_arrK2 (μ := μ9) (r := m) (k := 22) (kd := 101) (n := 41) (t := m + 9) (show gN μ9 = m + 9 from n8) (b0t (by decide)) k8
  generalize m9 : stR (stN μ9 101 41) m 22 (m + 9) = μ10 at *
  obtain ⟨p10, r10, v10, t10, l10, c10, n10⟩ := al_arr (μ := μ10) (r := m) (k := 23) (kd := 101) (n := 20) (t := m + 10) (show gN μ10 = m + 10 from n9) (b0t (by decide))
  obtain ⟨q10, k10, z10⟩ := al_arrK2 (μ := μ10) (r := m) (k := 23) (kd := 101) (n := 20) (t := m + 10) (show gN μ10 = m + 10 from n9) (b0t (by decide)) k9
  generalize m10 : stR (stN μ10 101 20) m 23 (m + 10) = μ11 at *
  obtain ⟨p11, r11, v11, t11, l11, c11, n11⟩ := al_arr (μ := μ11) (r := m) (k := 24) (kd := 101) (n := 4920) (t := m + 11) (show gN μ11 = m + 11 from n10) (b0t (by decide))
  obtain ⟨q11, k11, z11⟩ := al_arrK2 (μ := μ11) (r := m) (k := 24) (kd := 101) (n := 4920) (t := m + 11) (show gN μ11 = m + 11 from n10) (b0t (by decide)) k10
  generalize m11 : stR (stN μ11 101 4920) m 24 (m + 11) = μ12 at *
  have x6 : PV μ6 μ6 (m + 7) m := PV.same
  have x5 : PV μ5 μ6 (m + 6) m := p5.trans x6 (ble (by decide))
  have x4 : PV μ4 μ6 (m + 5) m := p4.trans x5 (ble (by decide))
  have x3 : PV μ3 μ6 (m + 4) m := p3.trans x4 (ble (by decide))
  have x2 : PV μ2 μ6 (m + 3) m := p2.trans x3 (ble (by decide))
  have x1 : PV μ1 μ6 (m + 2) m := p1.trans x2 (ble (by decide))
  have x0 : PV μ μ6 (m + 1) m := p0.trans x1 (ble (by decide))
  have x12 : PV μ12 μ12 (m + 12) m := PV.same
  have x11 : PV μ11 μ12 (m + 11) m := p11.trans x12 (ble (by decide))
  have x10 : PV μ10 μ12 (m + 10) m := p10.trans x11 (ble (by decide))
  have x9 : PV μ9 μ12 (m + 9) m := p9.trans x10 (ble (by decide))
  have x8 : PV μ8 μ12 (m + 8) m := p8.trans x9 (ble (by decide))
  have x7 : PV μ7 μ12 (m + 7) m := p7.trans x8 (ble (by decide))
  have sr : SR μ12 m := by
    refine ⟨h23, fun i hi => ?_, fun i h1 hi => ?_, fun p hp => ?_⟩
    · match i, hi with
      | 0, _ => exact k11
      | 1, _ => exact (x7.k (blt (by decide))).trans ((congrFun sK _).trans ((x1.k (blt (by decide))).trans t0))
      | 2, _ => exact (x7.k (blt (by decide))).trans ((congrFun sK _).trans ((x2.k (blt (by decide))).trans t1))
      | 3, _ => exact (x7.k (blt (by decide))).trans ((congrFun sK _).trans ((x3.k (blt (by decide))).trans t2))
      | 4, _ => exact (x7.k (blt (by decide))).trans ((congrFun sK _).trans ((x4.k (blt (by decide))).trans t3))
      | 5, _ => exact (x7.k (blt (by decide))).trans ((congrFun sK _).trans ((x5.k (blt (by decide))).trans t4))
      | 6, _ => exact (x7.k (blt (by decide))).trans ((congrFun sK _).trans ((x6.k (blt (by decide))).trans t5))
      | 7, _ => exact (x8.k (blt (by decide))).trans t7
      | 8, _ => exact (x9.k (blt (by decide))).trans t8
      | 9, _ => exact (x10.k (blt (by decide))).trans t9
      | 10, _ => exact (x11.k (blt (by decide))).trans t10
      | 11, _ => exact (x12.k (blt (by decide))).trans t11
      | i + 12, hi => exact absurd hi (Nat.not_lt.mpr (Nat.le_add_left 12 i))
    · match i, h1, hi with
      | 1, _, _ => exact (x7.l (blt (by decide))).trans ((congrFun sL _).trans ((x1.l (blt (by decide))).trans l0))
      | 2, _, _ => exact (x7.l (blt (by decide))).trans ((congrFun sL _).trans ((x2.l (blt (by decide))).trans l1))
      | 3, _, _ => exact (x7.l (blt (by decide))).trans ((congrFun sL _).trans ((x3.l (blt (by decide))).trans l2))
      | 4, _, _ => exact (x7.l (blt (by decide))).trans ((congrFun sL _).trans ((x4.l (blt (by decide))).trans l3))
      | 5, _, _ => exact (x7.l (blt (by decide))).trans ((congrFun sL _).trans ((x5.l (blt (by decide))).trans l4))
      | 6, _, _ => exact (x7.l (blt (by decide))).trans ((congrFun sL _).trans ((x6.l (blt (by decide))).trans l5))
      | 7, _, _ => exact (x8.l (blt (by decide))).trans l7
      | 8, _, _ => exact (x9.l (blt (by decide))).trans l8
      | 9, _, _ => exact (x10.l (blt (by decide))).trans l9
      | 10, _, _ => exact (x11.l (blt (by decide))).trans l10
      | 11, _, _ => exact (x12.l (blt (by decide))).trans l11
      | i + 12, _, hi => exact absurd hi (Nat.not_lt.mpr (Nat.le_add_left 12 i))
    · simp only [sr_R, List.mem_cons, List.not_mem_nil, or_false] at hp
      rcases hp with rfl | rfl | rfl | rfl | rfl | rfl | rfl | rfl | rfl | rfl | rfl
      · exact (by show gR μ12 m 0 = _; rw [r11 0 (by decide), r10 0 (by decide), r9 0 (by decide), r8 0 (by decide), r7 0 (by decide), sR, r5 0 (by decide), r4 0 (by decide), r3 0 (by decide), r2 0 (by decide), r1 0 (by decide)]; exact v0)
      · exact (by show gR μ12 m 1 = _; rw [r11 1 (by decide), r10 1 (by decide), r9 1 (by decide), r8 1 (by decide), r7 1 (by decide), sR, r5 1 (by decide), r4 1 (by decide), r3 1 (by decide), r2 1 (by decide)]; exact v1)
      · exact (by show gR μ12 m 2 = _; rw [r11 2 (by decide), r10 2 (by decide), r9 2 (by decide), r8 2 (by decide), r7 2 (by decide), sR, r5 2 (by decide), r4 2 (by decide), r3 2 (by decide)]; exact v2)
      · exact (by show gR μ12 m 3 = _; rw [r11 3 (by decide), r10 3 (by decide), r9 3 (by decide), r8 3 (by decide), r7 3 (by decide), sR, r5 3 (by decide), r4 3 (by decide)]; exact v3)
      · exact (by show gR μ12 m 4 = _; rw [r11 4 (by decide), r10 4 (by decide), r9 4 (by decide), r8 4 (by decide), r7 4 (by decide), sR, r5 4 (by decide)]; exact v4)
      · exact (by show gR μ12 m 6 = _; rw [r11 6 (by decide), r10 6 (by decide), r9 6 (by decide), r8 6 (by decide), r7 6 (by decide), sR]; exact v5)
      · exact (by show gR μ12 m 19 = _; rw [r11 19 (by decide), r10 19 (by decide), r9 19 (by decide), r8 19 (by decide)]; exact v7)
      · exact (by show gR μ12 m 21 = _; rw [r11 21 (by decide), r10 21 (by decide), r9 21 (by decide)]; exact v8)
      · exact (by show gR μ12 m 22 = _; rw [r11 22 (by decide), r10 22 (by decide)]; exact v9)
      · exact (by show gR μ12 m 23 = _; rw [r11 23 (by decide)]; exact v10)
      · exact (by show gR μ12 m 24 = _; exact v11)
  obtain ⟨μc, e1, e2, e3⟩ := x9_clearB sr.k1 sr.l1
  have rac : RA μc m (gI μc (m + 1)) := ⟨sr.fx e3, rfl⟩
  obtain ⟨μd, d1, d2, d3⟩ := x9_rst rac
  have fd : Fx (fun b => b = m + 1) μ12 μd := (e3.mono (fun a ha => ha)).trans (d3.mono (fun a ha => ha))
  have gm : ∀ a, a < m + 7 → ¬ a = m + 1 → gI μd a = gI μ7 a := fun a ha hn => (fd.I hn).trans (x7.i ha)
  have g0 : gI μ6 m = gI μ m := x0.i (b0t (by decide))
  have srk := rac.1.k0
  have rr0 := sr.r0
  refine ⟨μd, _, ?_, ⟨fun a ha => ?_, fun a ha hr => ?_⟩, ?_, d2, fun i hi => ?_, fun j hj => ?_, ?_, ?_⟩
  · clear x0 x1 x2 x3 x4 x5 x6 x7 x8 x9 x10 x11 x12 p0 r0 v0 t0 l0 c0 z0 p1 r1 v1 t1 l1 c1 z1 p2 r2 v2 t2 l2 c2 z2 p3 r3 v3 t3 l3 c3 z3 p4 r4 v4 t4 l4 c4 z4 p5 r5 v5 t5 l5 c5 z5 p7 r7 v7 t7 l7 c7 z7 p8 r8 v8 t8 l8 c8 z8 p9 r9 v9 t9 l9 c9 z9 p10 r10 v10 t10 l10 c10 z10 p11 r11 v11 t11 l11 c11 z11 sK sL sR sJ sD sI sm s9 e2 e3 d2 d3 fd gm g0 rac sr hI
    simp (disch := first | assumption | omega) only [q_bl, q_baT, q_bi, q_ba, q_pr, q_ob, q_iT, q_iN, q_it, q_if, q_of, nI_add, pk_mul, pk_sub, nI_leI, nI_ltI, nI_eq, nI_clamp, nI_lt0, nI_eqm, m1_eq, true_or, or_true, not_false_eq_true, m1_lt, m1_nlt, m1_le, m1_nle, b01, b011, q_em, q_m1, n_0, n_1, n_2, n_3, n_4, n_5, n_6, n_7, n_8, n_9, n_10, n_11, n_12, n_14, n_15, n_16, n_20, n_24, n_25, n_32, n_36, n_40, n_41, n_42, n_43, n_45, n_46, n_48, n_57, n_59, n_60, n_73, n_76, n_97, n_99, n_100, n_106, n_109, n_120, n_122, n_136, n_160, n_176, n_200, n_255, n_800, n_1000, n_1001, n_1002, n_1003, n_1006, n_1012, n_1018, n_1019, n_1020, n_1100, n_1140, n_4800, n_4920, n_5940, n_6740, n_20220, F_X9_init, hne, hN, q0, m0, n0, q1, m1, n1, q2, m2, n2, q3, m3, n3, q4, m4, n4, q5, m5, n5, k5, ms, sN, q7, m7, n7, q8, m8, n8, q9, m9, n9, q10, m10, n10, q11, m11, n11, k11, rr0, e1, srk, d1]
  · have lt1 : a < m + 1 := Nat.lt_succ_of_lt ha
    have na : ¬ a = m := Nat.ne_of_lt ha
    have na1 : ¬ a = m + 1 := Nat.ne_of_lt lt1
    have lt7 : a < m + 7 := Nat.lt_of_lt_of_le lt1 (ble (by decide))
    obtain ⟨u1, u2, u3, u4, u5⟩ := x0.1 a lt1
    obtain ⟨w1, w2, w3, w4, w5⟩ := x7.1 a lt7
    refine ⟨?_, ?_, ?_, ?_, ?_⟩
    · rw [fd.1, w1, sK, u1]
    · rw [fd.2.1, w2, sL, u2]
    · rw [fd.I na1, w3, sI a na, u3]
    · rw [fd.J na1, w4, sJ, u4]
    · rw [fd.2.2.2.2.1, w5, sD, u5]
  · have lt1 : a < m + 1 := Nat.lt_succ_of_lt ha
    have lt7 : a < m + 7 := Nat.lt_of_lt_of_le lt1 (ble (by decide))
    rw [fd.2.2.2.1, x7.2 a lt7 hr, sR, x0.2 a lt1 hr]
  · rw [fd.2.2.1]; exact n11
  · have ez : gI μc (m + 1) i = ZR i := by rw [e2 i, if_pos hi]
    unfold sp_reset
    by_cases h2 : 1000 ≤ i ∧ i < 1020
    · rw [if_pos h2]; unfold ZR; rw [if_neg (fun q => absurd (Nat.lt_of_lt_of_le q.2 (Nat.le_trans (by decide) h2.1)) (Nat.lt_irrefl _))]
    · rw [if_neg h2]; exact ez
  · rw [gm m (b0t (by decide)) (Nat.ne_of_lt (b0t (by decide))), sm j hj, g0, hI]
  · rw [gm m (b0t (by decide)) (Nat.ne_of_lt (b0t (by decide)))]; exact s9
  · rw [gm (m + 5) (blt (by decide)) (Nat.ne_of_gt (blt (by decide))), sI _ (bne (by decide)), x5.i (blt (by decide))]; exact c4
end NW5

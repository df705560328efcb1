/-! LAYER 3: feeding signs -/
def bt (i : Int32) (k : Nat) : Int32 := ((i.toUInt32 >>> ((nI (8 * k)).toUInt32 &&& Int32.toUInt32 31)).toInt32) &&& nI 255
def apn (f : SA) (n m : Nat) (i : Int32) : SA := fun j => if n ≤ j ∧ j < n + m then bt i (m - 1 - (j - n)) else f j
theorem apn_0 {f : SA} {n : Nat} {i : Int32} : apn f n 0 i = f := by funext j; unfold apn; rw [if_neg (by omega)]
theorem apn_s {f : SA} {n m : Nat} {i : Int32} : apn (ua f n (bt i m)) (n + 1) m i = apn f n (m + 1) i := by
  funext j; unfold apn
  by_cases h : j = n
  · subst h; rw [if_neg (by omega), if_pos (by omega), ua_s]; congr 1; omega
  · by_cases h2 : n + 1 ≤ j ∧ j < n + 1 + m
    · rw [if_pos h2, if_pos (by omega)]; congr 1; omega
    · rw [if_neg h2, if_neg (by omega), ua_n h]
theorem and255 (v : Int32) : isN (v &&& nI 255) 0 255 := by
  have h1 : (v &&& nI 255).toBitVec.toNat ≤ 255 := by
    have e : (v &&& nI 255).toBitVec = v.toBitVec &&& 255#32 := Int32.toBitVec_and v (nI 255)
    rw [e, BitVec.toNat_and]
    exact Nat.and_le_right
  refine ⟨(v &&& nI 255).toBitVec.toNat, ?_, Nat.zero_le _, h1⟩
  apply Int32.toBitVec_inj.mp
  show _ = BitVec.ofNat 32 _
  rw [BitVec.ofNat_toNat, BitVec.setWidth_eq]
theorem apn_eq {f g : SA} {n : Nat} {i : Int32} (h : ∀ k, k < n → f k = g k ∧ isN (f k) 0 255) : ∀ k, k < n + 4 → apn f n 4 i k = apn g n 4 i k ∧ isN (apn f n 4 i k) 0 255 := fun k hk => by
  unfold apn
  by_cases h2 : n ≤ k ∧ k < n + 4
  · rw [if_pos h2, if_pos h2]; exact ⟨rfl, and255 _⟩
  · rw [if_neg h2, if_neg h2]; exact h k (by omega)
theorem m8_s {q : Nat} (hq : q < 10) : nI (8 * (q + 1)) + -nI 8 = nI (8 * q) := by
  rw [← Int32.sub_eq_add_neg, pk_sub (by omega)]; congr 1
section FEE
variable {μ μ1 μ2 : Mem} {x : Nat} {A : SA}
theorem l5_app {d : Nat} {i : Int32} : ∀ (m fu n : Nat) (μ : Mem), m < fu → m ≤ 4 → RDS μ d → gI μ d 1 = nI n → n + m ≤ 1100 → ∃ μ', L_X5_append_2 fu d i (nI m + -nI 1) μ = some μ' ∧ gI μ' d 1 = nI (n + m) ∧ gI μ' (d + 1) = apn (gI μ (d + 1)) n m i ∧ Fx (fun a => a = d ∨ a = d + 1) μ μ' ∧ ∀ j, ¬ j = 1 → gI μ' d j = gI μ d j := by
  intro m
  induction m with
  | zero =>
    intro fu n μ hf hm h g hn
    obtain ⟨fu, rfl⟩ : ∃ k, fu = k + 1 := ⟨fu - 1, by omega⟩
    have e0 : nI 0 + -nI 1 = -nI 1 := by decide +kernel
    have e1 : -nI 1 < nI 0 := by decide +kernel
    refine ⟨μ, ?_, g, by rw [apn_0], Fx.same, fun _ _ => rfl⟩
    clear h
    simp (disch := first | assumption | omega) only [q_bl, q_baT, q_bi, q_ba, q_pr, q_ob, q_iT, q_iN, q_it, q_if, q_of, nI_add, pk_mul, pk_sub, nI_leI, nI_ltI, nI_eq, nI_clamp, nI_lt0, nI_eqm, m1_eq, true_or, or_true, not_false_eq_true, m1_lt, m1_nlt, m1_le, m1_nle, b01, b011, q_em, q_m1, n_0, n_1, n_2, n_3, n_4, n_5, n_6, n_7, n_8, n_9, n_10, n_11, n_12, n_14, n_15, n_16, n_20, n_24, n_25, n_32, n_36, n_40, n_41, n_42, n_43, n_45, n_46, n_48, n_57, n_59, n_60, n_73, n_76, n_97, n_99, n_100, n_106, n_109, n_120, n_122, n_136, n_160, n_176, n_200, n_255, n_800, n_1000, n_1001, n_1002, n_1003, n_1006, n_1012, n_1018, n_1019, n_1020, n_1100, n_1140, n_4800, n_4920, n_5940, n_6740, n_20220, L_X5_append_2, B_X5_append_2, e0]
  | succ m ih =>
    intro fu n μ hf hm h g hn
    obtain ⟨fu, rfl⟩ : ∃ k, fu = k + 1 := ⟨fu - 1, by omega⟩
    have f1 : Fx (fun a => a = d ∨ a = d + 1) μ (stI (stI μ (d + 1) n (bt i m)) d 1 (nI (n + 1))) := (Fx.stI (Or.inr rfl)).trans (Fx.stI (Or.inl rfl))
    obtain ⟨μ', q1, q2, q3, q4, q5⟩ := ih fu (n + 1) _ (by omega) (by omega) (h.fx f1) (by rw [q_iI, q_us]) (by omega)
    refine ⟨μ', ?_, by rw [q2]; congr 1; omega, ?_, f1.trans q4, fun j hj => ?_⟩
    · obtain ⟨k0, r0, _, _, _, _, _, k1, l1, _⟩ := h
      clear ih q2 q3 q4 q5 f1
      unfold bt at q1
      simp (disch := first | assumption | omega) only [q_bl, q_baT, q_bi, q_ba, q_pr, q_ob, q_iT, q_iN, q_it, q_if, q_of, nI_add, pk_mul, pk_sub, nI_leI, nI_ltI, nI_eq, nI_clamp, nI_lt0, nI_eqm, m1_eq, true_or, or_true, not_false_eq_true, m1_lt, m1_nlt, m1_le, m1_nle, b01, b011, q_em, q_m1, n_0, n_1, n_2, n_3, n_4, n_5, n_6, n_7, n_8, n_9, n_10, n_11, n_12, n_14, n_15, n_16, n_20, n_24, n_25, n_32, n_36, n_40, n_41, n_42, n_43, n_45, n_46, n_48, n_57, n_59, n_60, n_73, n_76, n_97, n_99, n_100, n_106, n_109, n_120, n_122, n_136, n_160, n_176, n_200, n_255, n_800, n_1000, n_1001, n_1002, n_1003, n_1006, n_1012, n_1018, n_1019, n_1020, n_1100, n_1140, n_4800, n_4920, n_5940, n_6740, n_20220, q_kI, q_lI, q_nI, q_rI, q_iI, q_jI, q_dI, q_kJ, q_lJ, q_nJ, q_rJ, q_iJ, q_jJ, q_dJ, q_kC, q_lC, q_nC, q_rC, q_jC, q_dC, q_kF, q_lF, q_nF, q_rF, q_jF, q_dF, q_us, q_un, q_ua, L_X5_append_2, B_X5_append_2, B_X5_append_54, k0, g, r0, k1, l1, q1]
    · rw [q3, q_iI, q_ua (by omega), q_iI, q_row, apn_s]
    · rw [q5 j hj, q_iI, q_un (by omega), q_iI, q_ua (by omega)]
theorem l9_app {m : Nat} {i : Int32} : ∀ (q fu n : Nat) (μ : Mem), q < fu → q ≤ 4 → SR μ m → gI μ m 7 = nI n → n + q ≤ 1100 → ∃ μ', L_X9_append_3 fu m i (nI (8 * q) + -nI 8) μ = some μ' ∧ gI μ' m 7 = nI (n + q) ∧ gI μ' (m + 6) = apn (gI μ (m + 6)) n q i ∧ Fx (fun a => a = m ∨ a = m + 6) μ μ' ∧ ∀ j, ¬ j = 7 → gI μ' m j = gI μ m j := by
  intro q
  induction q with
  | zero =>
    intro fu n μ hf hm h g hn
    obtain ⟨fu, rfl⟩ : ∃ k, fu = k + 1 := ⟨fu - 1, by omega⟩
    have e0 : nI (8 * 0) + -nI 8 < nI 0 := by decide +kernel
    refine ⟨μ, ?_, g, by rw [apn_0], Fx.same, fun _ _ => rfl⟩
    clear h
    simp (disch := first | assumption | omega) only [q_bl, q_baT, q_bi, q_ba, q_pr, q_ob, q_iT, q_iN, q_it, q_if, q_of, nI_add, pk_mul, pk_sub, nI_leI, nI_ltI, nI_eq, nI_clamp, nI_lt0, nI_eqm, m1_eq, true_or, or_true, not_false_eq_true, m1_lt, m1_nlt, m1_le, m1_nle, b01, b011, q_em, q_m1, n_0, n_1, n_2, n_3, n_4, n_5, n_6, n_7, n_8, n_9, n_10, n_11, n_12, n_14, n_15, n_16, n_20, n_24, n_25, n_32, n_36, n_40, n_41, n_42, n_43, n_45, n_46, n_48, n_57, n_59, n_60, n_73, n_76, n_97, n_99, n_100, n_106, n_109, n_120, n_122, n_136, n_160, n_176, n_200, n_255, n_800, n_1000, n_1001, n_1002, n_1003, n_1006, n_1012, n_1018, n_1019, n_1020, n_1100, n_1140, n_4800, n_4920, n_5940, n_6740, n_20220, L_X9_append_3, B_X9_append_3]
  | succ q ih =>
    intro fu n μ hf hm h g hn
    obtain ⟨fu, rfl⟩ : ∃ k, fu = k + 1 := ⟨fu - 1, by omega⟩
    have f1 : Fx (fun a => a = m ∨ a = m + 6) μ (stI (stI μ (m + 6) n (bt i q)) m 7 (nI (n + 1))) := (Fx.stI (Or.inr rfl)).trans (Fx.stI (Or.inl rfl))
    obtain ⟨μ', q1, q2, q3, q4, q5⟩ := ih fu (n + 1) _ (by omega) (by omega) (h.fx f1) (by rw [q_iI, q_us]) (by omega)
    refine ⟨μ', ?_, by rw [q2]; congr 1; omega, ?_, f1.trans q4, fun j hj => ?_⟩
    · have e0 := m8_s (show q < 10 by omega)
      have k0 := h.k0
      have r6 := h.r6
      have k6 := h.k6
      have l6 := h.l6
      clear ih q2 q3 q4 q5 f1 h
      unfold bt at q1
      rw [e0]
      simp (disch := first | assumption | omega) only [q_bl, q_baT, q_bi, q_ba, q_pr, q_ob, q_iT, q_iN, q_it, q_if, q_of, nI_add, pk_mul, pk_sub, nI_leI, nI_ltI, nI_eq, nI_clamp, nI_lt0, nI_eqm, m1_eq, true_or, or_true, not_false_eq_true, m1_lt, m1_nlt, m1_le, m1_nle, b01, b011, q_em, q_m1, n_0, n_1, n_2, n_3, n_4, n_5, n_6, n_7, n_8, n_9, n_10, n_11, n_12, n_14, n_15, n_16, n_20, n_24, n_25, n_32, n_36, n_40, n_41, n_42, n_43, n_45, n_46, n_48, n_57, n_59, n_60, n_73, n_76, n_97, n_99, n_100, n_106, n_109, n_120, n_122, n_136, n_160, n_176, n_200, n_255, n_800, n_1000, n_1001, n_1002, n_1003, n_1006, n_1012, n_1018, n_1019, n_1020, n_1100, n_1140, n_4800, n_4920, n_5940, n_6740, n_20220, q_kI, q_lI, q_nI, q_rI, q_iI, q_jI, q_dI, q_kJ, q_lJ, q_nJ, q_rJ, q_iJ, q_jJ, q_dJ, q_kC, q_lC, q_nC, q_rC, q_jC, q_dC, q_kF, q_lF, q_nF, q_rF, q_jF, q_dF, q_us, q_un, q_ua, L_X9_append_3, B_X9_append_3, k0, g, r6, k6, l6, q1]
    · rw [q3, q_iI, q_ua (by omega), q_iI, q_row, apn_s]
    · rw [q5 j hj, q_iI, q_un (by omega), q_iI, q_ua (by omega)]
theorem x5_app {d n : Nat} {i : Int32} (h : RDS μ d) (g : gI μ d 1 = nI n) (hn : n + 4 ≤ 1100) : ∃ μ', F_X5_append d i μ = some μ' ∧ gI μ' d 1 = nI (n + 4) ∧ gI μ' (d + 1) = apn (gI μ (d + 1)) n 4 i ∧ Fx (fun a => a = d ∨ a = d + 1) μ μ' ∧ ∀ j, ¬ j = 1 → gI μ' d j = gI μ d j := by
  obtain ⟨μ', q1, q2⟩ := l5_app (i := i) 4 FU n μ (FU_gt (by decide)) (by decide) h g hn
  have e3 : (3 : Int32) = nI 4 + -nI 1 := by decide +kernel
  exact ⟨μ', by unfold F_X5_append; rw [e3]; exact q1, q2⟩
theorem x9_app {m n : Nat} {i : Int32} (h : SR μ m) (g : gI μ m 7 = nI n) (hn : n + 4 ≤ 1100) : ∃ μ', F_X9_append m i μ = some μ' ∧ gI μ' m 7 = nI (n + 4) ∧ gI μ' (m + 6) = apn (gI μ (m + 6)) n 4 i ∧ Fx (fun a => a = m ∨ a = m + 6) μ μ' ∧ ∀ j, ¬ j = 7 → gI μ' m j = gI μ m j := by
  obtain ⟨μ', q1, q2⟩ := l9_app (i := i) 4 FU n μ (FU_gt (by decide)) (by decide) h g hn
  have e3 : (24 : Int32) = nI (8 * 4) + -nI 8 := by decide +kernel
  exact ⟨μ', by unfold F_X9_append; rw [e3]; exact q1, q2⟩
-- five of them
theorem x5_app5 {d n : Nat} {i1 i2 i3 i4 i5 : Int32} (h : RDS μ d) (g : gI μ d 1 = nI n) (hn : n + 20 ≤ 1100) : ∃ μ1 μ2 μ3 μ4 μ5, F_X5_append d i1 μ = some μ1 ∧ F_X5_append d i2 μ1 = some μ2 ∧ F_X5_append d i3 μ2 = some μ3 ∧ F_X5_append d i4 μ3 = some μ4 ∧ F_X5_append d i5 μ4 = some μ5 ∧ (Fx (fun a => a = d ∨ a = d + 1) μ μ1 ∧ Fx (fun a => a = d ∨ a = d + 1) μ μ2 ∧ Fx (fun a => a = d ∨ a = d + 1) μ μ3 ∧ Fx (fun a => a = d ∨ a = d + 1) μ μ4 ∧ Fx (fun a => a = d ∨ a = d + 1) μ μ5) ∧ gI μ5 d 1 = nI (n + 20) ∧ (∀ j, ¬ j = 1 → gI μ5 d j = gI μ d j) ∧ gI μ5 (d + 1) = apn (apn (apn (apn (apn (gI μ (d + 1)) n 4 i1) (n + 4) 4 i2) (n + 8) 4 i3) (n + 12) 4 i4) (n + 16) 4 i5 := by
  obtain ⟨μ1, a1, a2, a3, a4, a5⟩ := x5_app (i := i1) h g (by omega)
  obtain ⟨μ2, b1, b2, b3, b4, b5⟩ := x5_app (i := i2) (h.fx a4) a2 (by omega)
  obtain ⟨μ3, c1, c2, c3, c4, c5⟩ := x5_app (i := i3) ((h.fx a4).fx b4) b2 (by omega)
  obtain ⟨μ4, d1, d2, d3, d4, d5⟩ := x5_app (i := i4) (((h.fx a4).fx b4).fx c4) c2 (by omega)
  obtain ⟨μ5, e1, e2, e3, e4, e5⟩ := x5_app (i := i5) ((((h.fx a4).fx b4).fx c4).fx d4) d2 (by omega)
  exact ⟨μ1, μ2, μ3, μ4, μ5, a1, b1, c1, d1, e1, ⟨a4, a4.trans b4, (a4.trans b4).trans c4, ((a4.trans b4).trans c4).trans d4, (((a4.trans b4).trans c4).trans d4).trans e4⟩, e2, fun j hj => by rw [e5 j hj, d5 j hj, c5 j hj, b5 j hj, a5 j hj], by rw [e3, d3, c3, b3, a3]⟩
theorem x9_app5 {m n : Nat} {i1 i2 i3 i4 i5 : Int32} (h : SR μ m) (g : gI μ m 7 = nI n) (hn : n + 20 ≤ 1100) : ∃ μ1 μ2 μ3 μ4 μ5, F_X9_append m i1 μ = some μ1 ∧ F_X9_append m i2 μ1 = some μ2 ∧ F_X9_append m i3 μ2 = some μ3 ∧ F_X9_append m i4 μ3 = some μ4 ∧ F_X9_append m i5 μ4 = some μ5 ∧ (Fx (fun a => a = m ∨ a = m + 6) μ μ1 ∧ Fx (fun a => a = m ∨ a = m + 6) μ μ2 ∧ Fx (fun a => a = m ∨ a = m + 6) μ μ3 ∧ Fx (fun a => a = m ∨ a = m + 6) μ μ4 ∧ Fx (fun a => a = m ∨ a = m + 6) μ μ5) ∧ gI μ5 m 7 = nI (n + 20) ∧ (∀ j, ¬ j = 7 → gI μ5 m j = gI μ m j) ∧ gI μ5 (m + 6) = apn (apn (apn (apn (apn (gI μ (m + 6)) n 4 i1) (n + 4) 4 i2) (n + 8) 4 i3) (n + 12) 4 i4) (n + 16) 4 i5 := by
  obtain ⟨μ1, a1, a2, a3, a4, a5⟩ := x9_app (i := i1) h g (by omega)
  obtain ⟨μ2, b1, b2, b3, b4, b5⟩ := x9_app (i := i2) (h.fx a4) a2 (by omega)
  obtain ⟨μ3, c1, c2, c3, c4, c5⟩ := x9_app (i := i3) ((h.fx a4).fx b4) b2 (by omega)
  obtain ⟨μ4, d1, d2, d3, d4, d5⟩ := x9_app (i := i4) (((h.fx a4).fx b4).fx c4) c2 (by omega)
  obtain ⟨μ5, e1, e2, e3, e4, e5⟩ := x9_app (i := i5) ((((h.fx a4).fx b4).fx c4).fx d4) d2 (by omega)
  exact ⟨μ1, μ2, μ3, μ4, μ5, a1, b1, c1, d1, e1, ⟨a4, a4.trans b4, (a4.trans b4).trans c4, ((a4.trans b4).trans c4).trans d4, (((a4.trans b4).trans c4).trans d4).trans e4⟩, e2, fun j hj => by rw [e5 j hj, d5 j hj, c5 j hj, b5 j hj, a5 j hj], by rw [e3, d3, c3, b3, a3]⟩
/-- what holds, but for the reader's buffers -/
theorem INV.rdr {P Q : Nat → Prop} (h : INV μ x A) (f : Fx P μ μ1) (hp : ∀ a, P a → a = x + 1 ∨ a = x + 2) (f2 : Fx Q μ1 μ2) (hq : ∀ a, Q a → a = x + 120 ∨ a = x + 126) (hb : BN μ2 x) (he : ER μ2 x) : INV μ2 x A := by
  obtain ⟨h1, h2, h3, h4, h5, h6⟩ := h
  have ff : Fx (fun a => P a ∨ Q a) μ μ2 := (f.mono (fun a ha => Or.inl ha)).trans (f2.mono (fun a ha => Or.inr ha))
  have hn : ∀ a, (P a ∨ Q a) → a = x + 1 ∨ a = x + 2 ∨ a = x + 120 ∨ a = x + 126 := fun a ha => by
    rcases ha with q | q
    · have := hp a q; omega
    · have := hq a q; omega
  exact ⟨h1.fx ff, h2.fx ff (fun a a1 a2 q => by have := hn a q; omega), (ff.I (fun q => by have := hn _ q; omega)).trans h3, h4.fx ff (fun a ha q => by have := hn a q; omega) (ff.I (fun q => by have := hn _ q; omega)) (ff.I (fun q => by have := hn _ q; omega)), ⟨hb, h5.2.eq (fun a a1 a2 => ff.I (fun q => by have := hn _ q; omega))⟩, he⟩
theorem ld_feed {i1 i2 i3 i4 i5 : Int32} (h : INV μ x A) : LD x (F_X8_feed x i1 i2 i3 i4 i5 μ) (F_X9_feed (x + 120) i1 i2 i3 i4 i5) := by
  have hs := h.is
  have sr := h.is.sr
  have rd := h.is.rd
  obtain ⟨n, n1, n2, n3, n4⟩ := h.2.2.2.2.1.1
  by_cases hx : n + 20 ≤ 1100
  · obtain ⟨μ1, μ2, μ3, μ4, μ5, a1, a2, a3, a4, a5, ⟨f1, f2, f3, f4, f5⟩, g1, g2, g3⟩ := x5_app5 (i1 := i1) (i2 := i2) (i3 := i3) (i4 := i4) (i5 := i5) rd n2 hx
    have ft : Fx (fun a => a = x + 120 ∨ a = x + 120 + 6) μ5 (stI μ5 (x + 120) 5 (nI 0)) := Fx.stI (Or.inl rfl)
    have s0 := sr.fx f5
    have n5 : gI (stI μ5 (x + 120) 5 (nI 0)) (x + 120) 7 = nI n := by rw [q_iI, q_un (by omega), f5.I (by omega)]; exact n3
    obtain ⟨ν1, ν2, ν3, ν4, ν5, b1, b2, b3, b4, b5, ⟨e1, e2, e3, e4, e5⟩, k1, k2, k3⟩ := x9_app5 (i1 := i1) (i2 := i2) (i3 := i3) (i4 := i4) (i5 := i5) (s0.fx ft) n5 hx
    have fe := ft.trans e5
    have hI : INV ν5 x A := by
      refine h.rdr f5 (fun a ha => by omega) fe (fun a ha => by omega) ⟨n + 20, hx, by rw [fe.I (by omega)]; exact g1, k1, fun k hk => ?_⟩ ?_
      · rw [fe.I (a := x + 2) (by omega), show x + 2 = x + 1 + 1 from rfl, g3, show x + 126 = x + 120 + 6 from rfl, k3, q_iI, q_ua (by omega), f5.I (a := x + 120 + 6) (by omega)]
        exact apn_eq (apn_eq (apn_eq (apn_eq (apn_eq n4)))) k hk
      · have he := h.2.2.2.2.2
        unfold ER
        rw [fe.I (a := x + 1) (by omega), g2 13 (by decide), g2 14 (by decide), k2 8 (by decide), k2 9 (by decide), q_iI, q_un (by omega), q_un (by omega), f5.I (a := x + 120) (by omega)]
        exact he
    refine ⟨nI (n + 20), μ5, ν5, ?_, ?_, hI.1, A, hI⟩
    · have r1 := hs.fx f1
      have r2 := hs.fx f2
      have r3 := hs.fx f3
      have r4 := hs.fx f4
      have r5 := hs.fx f5
      have q0 := rd.1
      have q1 := r1.rd.1
      have q2 := r2.rd.1
      have q3 := r3.rd.1
      have q4 := r4.rd.1
      have q5 := r5.rd.1
      clear h n4 f1 f2 f3 f4 f5 g2 g3 ft s0 n5 b1 b2 b3 b4 b5 e1 e2 e3 e4 e5 k1 k2 k3 fe hI rd
      simp (disch := first | assumption | omega) only [q_bl, q_baT, q_bi, q_ba, q_pr, q_ob, q_iT, q_iN, q_it, q_if, q_of, nI_add, pk_mul, pk_sub, nI_leI, nI_ltI, nI_eq, nI_clamp, nI_lt0, nI_eqm, m1_eq, true_or, or_true, not_false_eq_true, m1_lt, m1_nlt, m1_le, m1_nle, b01, b011, q_em, q_m1, n_0, n_1, n_2, n_3, n_4, n_5, n_6, n_7, n_8, n_9, n_10, n_11, n_12, n_14, n_15, n_16, n_20, n_24, n_25, n_32, n_36, n_40, n_41, n_42, n_43, n_45, n_46, n_48, n_57, n_59, n_60, n_73, n_76, n_97, n_99, n_100, n_106, n_109, n_120, n_122, n_136, n_160, n_176, n_200, n_255, n_800, n_1000, n_1001, n_1002, n_1003, n_1006, n_1012, n_1018, n_1019, n_1020, n_1100, n_1140, n_4800, n_4920, n_5940, n_6740, n_20220, F_X8_feed, hs.kx, hs.r0, q0, n2, a1, r1.kx, r1.r0, q1, a2, r2.kx, r2.r0, q2, a3, r3.kx, r3.r0, q3, a4, r4.kx, r4.r0, q4, a5, r5.kx, r5.r0, q5, g1]
    · have s1 := (s0.fx ft).k0
      have t1 := ((s0.fx ft).fx e1).k0
      have t2 := ((s0.fx ft).fx e2).k0
      have t3 := ((s0.fx ft).fx e3).k0
      have t4 := ((s0.fx ft).fx e4).k0
      have t5 := ((s0.fx ft).fx e5).k0
      have s00 := s0.k0
      clear h n4 f1 f2 f3 f4 f5 g2 g3 ft a1 a2 a3 a4 a5 e1 e2 e3 e4 e5 k2 k3 fe hI rd s0
      simp (disch := first | assumption | omega) only [q_bl, q_baT, q_bi, q_ba, q_pr, q_ob, q_iT, q_iN, q_it, q_if, q_of, nI_add, pk_mul, pk_sub, nI_leI, nI_ltI, nI_eq, nI_clamp, nI_lt0, nI_eqm, m1_eq, true_or, or_true, not_false_eq_true, m1_lt, m1_nlt, m1_le, m1_nle, b01, b011, q_em, q_m1, n_0, n_1, n_2, n_3, n_4, n_5, n_6, n_7, n_8, n_9, n_10, n_11, n_12, n_14, n_15, n_16, n_20, n_24, n_25, n_32, n_36, n_40, n_41, n_42, n_43, n_45, n_46, n_48, n_57, n_59, n_60, n_73, n_76, n_97, n_99, n_100, n_106, n_109, n_120, n_122, n_136, n_160, n_176, n_200, n_255, n_800, n_1000, n_1001, n_1002, n_1003, n_1006, n_1012, n_1018, n_1019, n_1020, n_1100, n_1140, n_4800, n_4920, n_5940, n_6740, n_20220, F_X9_feed, s00, s1, n5, b1, t1, b2, t2, b3, t3, b4, t4, b5, t5, k1]
  · have q0 := rd.1
    have n5 : gI μ (x + 120) 7 = nI n := n3
    refine LD.ok h (b := -nI 2) ?_ ?_
    · have hx2 : ¬ nI (n + 20) ≤ nI 1100 := by rw [nI_leI (by omega) (by omega)]; exact hx
      clear h n4 rd
      simp (disch := first | assumption | omega) only [q_bl, q_baT, q_bi, q_ba, q_pr, q_ob, q_iT, q_iN, q_it, q_if, q_of, nI_add, pk_mul, pk_sub, nI_leI, nI_ltI, nI_eq, nI_clamp, nI_lt0, nI_eqm, m1_eq, true_or, or_true, not_false_eq_true, m1_lt, m1_nlt, m1_le, m1_nle, b01, b011, q_em, q_m1, n_0, n_1, n_2, n_3, n_4, n_5, n_6, n_7, n_8, n_9, n_10, n_11, n_12, n_14, n_15, n_16, n_20, n_24, n_25, n_32, n_36, n_40, n_41, n_42, n_43, n_45, n_46, n_48, n_57, n_59, n_60, n_73, n_76, n_97, n_99, n_100, n_106, n_109, n_120, n_122, n_136, n_160, n_176, n_200, n_255, n_800, n_1000, n_1001, n_1002, n_1003, n_1006, n_1012, n_1018, n_1019, n_1020, n_1100, n_1140, n_4800, n_4920, n_5940, n_6740, n_20220, F_X8_feed, hs.kx, hs.r0, q0, n2, hx2]
    · have hx2 : ¬ nI (n + 20) ≤ nI 1100 := by rw [nI_leI (by omega) (by omega)]; exact hx
      clear h n4 rd
      simp (disch := first | assumption | omega) only [q_bl, q_baT, q_bi, q_ba, q_pr, q_ob, q_iT, q_iN, q_it, q_if, q_of, nI_add, pk_mul, pk_sub, nI_leI, nI_ltI, nI_eq, nI_clamp, nI_lt0, nI_eqm, m1_eq, true_or, or_true, not_false_eq_true, m1_lt, m1_nlt, m1_le, m1_nle, b01, b011, q_em, q_m1, n_0, n_1, n_2, n_3, n_4, n_5, n_6, n_7, n_8, n_9, n_10, n_11, n_12, n_14, n_15, n_16, n_20, n_24, n_25, n_32, n_36, n_40, n_41, n_42, n_43, n_45, n_46, n_48, n_57, n_59, n_60, n_73, n_76, n_97, n_99, n_100, n_106, n_109, n_120, n_122, n_136, n_160, n_176, n_200, n_255, n_800, n_1000, n_1001, n_1002, n_1003, n_1006, n_1012, n_1018, n_1019, n_1020, n_1100, n_1140, n_4800, n_4920, n_5940, n_6740, n_20220, q_kI, q_lI, q_nI, q_rI, q_iI, q_jI, q_dI, q_kJ, q_lJ, q_nJ, q_rJ, q_iJ, q_jJ, q_dJ, q_kC, q_lC, q_nC, q_rC, q_jC, q_dC, q_kF, q_lF, q_nF, q_rF, q_jF, q_dF, q_us, q_un, q_ua, F_X9_feed, sr.k0, n5, hx2]
end FEE

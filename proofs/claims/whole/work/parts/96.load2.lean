/-! LAYER 3: load, both -/
section LDY
variable {μ μ1 μ2 : Mem} {x : Nat} {A : SA}
/-- what holds behind a text, the machine aside -/
theorem inv_load {A2 : SA} {P : Nat → Prop} (h : INV μ x A) (f : Fx P μ μ2) (hp : ∀ a, P a → (x + 1 ≤ a ∧ a < x + 57 ∧ ¬ a = x + 2) ∨ a = x + 120 ∨ a = x + 121 ∨ a = x + 122 ∨ a = x + 127 ∨ a = x + 132) (hm : MO μ2 (x + 26) A2 (BB A2)) (hA : gI μ2 (x + 121) = A2) (b1 : gI μ2 (x + 1) 1 = nI 0) (b2 : gI μ2 (x + 120) 7 = nI 0) (hl : ∀ k, k < 8 → gI μ2 (x + 7 + 2 * k) 1 = nI (lms.getD k 0)) (he : ER μ2 x) : INV μ2 x A2 := by
  obtain ⟨h1, h2, h3, h4, h5, h6⟩ := h
  refine ⟨h1.fx f, hm, hA, h4.fx f (fun a ha q => by have := hp a q; omega) (f.I (fun q => by have := hp _ q; omega)) (f.I (fun q => by have := hp _ q; omega)), ⟨⟨0, by decide, b1, b2, fun k hk => absurd hk (Nat.not_lt_zero _)⟩, fun k hk => ?_⟩, he⟩
  rw [show x + 1 + 5 + 1 + 2 * k = x + 7 + 2 * k from by omega]
  exact hl k hk
set_option maxHeartbeats 8000000 in
theorem lw_load {i1 : Int32} (h : INV μ x A) : LW x (F_L_load x i1 (x + 132) μ) (F_X9_load (x + 120) i1) (fun b μ' => gJ μ' (x + 132) 0 = b.toInt64) := by
  have hs := h.is
  have sr := h.is.sr
  obtain ⟨⟨N, hN, n1, n2, n3⟩, hL⟩ := h.2.2.2.2.1
  have q0 := hs.rd.1
  by_cases hi : IR i1 (N + 1)
  rotate_left
  · -- no such length
    have hN9 : (0 : Int64).toInt = 0 := by decide +kernel
    have hb : ∀ ν : Mem, F_X9_between i1.toInt64 (0 : Int64) ((nI N).toInt64) ν = some (nI 0) := fun ν => by
      rw [x9_bt, I64_T, I64_T, nI_toInt (by omega), hN9, if_neg (fun e => hi ⟨e.1, by have := e.2; omega⟩)]
    have g7 : gI μ (x + 120) 7 = nI N := n2
    refine LW.err h (k := nI 1) (b := nI 0) (by decide +kernel) ?_ ?_
    · by_cases h0 : i1 < nI 0
      · clear h n3 hL hb
        simp (disch := first | assumption | omega) only [q_bl, q_baT, q_bi, q_ba, q_pr, q_ob, q_iT, q_iN, q_it, q_if, q_of, nI_add, pk_mul, pk_sub, nI_leI, nI_ltI, nI_eq, nI_clamp, nI_lt0, nI_eqm, m1_eq, true_or, or_true, not_false_eq_true, m1_lt, m1_nlt, m1_le, m1_nle, b01, b011, q_em, q_m1, n_0, n_1, n_2, n_3, n_4, n_5, n_6, n_7, n_8, n_9, n_10, n_11, n_12, n_14, n_15, n_16, n_20, n_24, n_25, n_32, n_36, n_40, n_41, n_42, n_43, n_45, n_46, n_48, n_57, n_59, n_60, n_73, n_76, n_97, n_99, n_100, n_106, n_109, n_120, n_122, n_136, n_160, n_176, n_200, n_255, n_800, n_1000, n_1001, n_1002, n_1003, n_1006, n_1012, n_1018, n_1019, n_1020, n_1100, n_1140, n_4800, n_4920, n_5940, n_6740, n_20220, F_L_load, F_X8_load, B_X8_load_15, q_prL, q_prR, hs.kx, h0]
      · have h1 : ¬ i1 ≤ nI N := by
          rw [Int32.le_iff_toInt_le, nI_toInt (by omega)]
          rw [lt0_T] at h0
          exact fun e => hi ⟨by omega, by omega⟩
        clear h n3 hL hb
        simp (disch := first | assumption | omega) only [q_bl, q_baT, q_bi, q_ba, q_pr, q_ob, q_iT, q_iN, q_it, q_if, q_of, nI_add, pk_mul, pk_sub, nI_leI, nI_ltI, nI_eq, nI_clamp, nI_lt0, nI_eqm, m1_eq, true_or, or_true, not_false_eq_true, m1_lt, m1_nlt, m1_le, m1_nle, b01, b011, q_em, q_m1, n_0, n_1, n_2, n_3, n_4, n_5, n_6, n_7, n_8, n_9, n_10, n_11, n_12, n_14, n_15, n_16, n_20, n_24, n_25, n_32, n_36, n_40, n_41, n_42, n_43, n_45, n_46, n_48, n_57, n_59, n_60, n_73, n_76, n_97, n_99, n_100, n_106, n_109, n_120, n_122, n_136, n_160, n_176, n_200, n_255, n_800, n_1000, n_1001, n_1002, n_1003, n_1006, n_1012, n_1018, n_1019, n_1020, n_1100, n_1140, n_4800, n_4920, n_5940, n_6740, n_20220, F_L_load, F_X8_load, B_X8_load_15, q_prL, q_prR, hs.kx, hs.r0, q0, n1, h0, h1]
    · have k0 := sr.k0
      have hb1 := hb μ
      have k1 : gK (stI μ (x + 120) 5 (nI 1)) (x + 120) = 8 := k0
      have g5 : ¬ gI (stI μ (x + 120) 5 (nI 1)) (x + 120) 5 ≤ nI 0 := by rw [q_iI, q_us, nI_leI (by decide) (by decide)]; decide
      clear h n3 hL hb
      simp (disch := first | assumption | omega) only [q_bl, q_baT, q_bi, q_ba, q_pr, q_ob, q_iT, q_iN, q_it, q_if, q_of, nI_add, pk_mul, pk_sub, nI_leI, nI_ltI, nI_eq, nI_clamp, nI_lt0, nI_eqm, m1_eq, true_or, or_true, not_false_eq_true, m1_lt, m1_nlt, m1_le, m1_nle, b01, b011, q_em, q_m1, n_0, n_1, n_2, n_3, n_4, n_5, n_6, n_7, n_8, n_9, n_10, n_11, n_12, n_14, n_15, n_16, n_20, n_24, n_25, n_32, n_36, n_40, n_41, n_42, n_43, n_45, n_46, n_48, n_57, n_59, n_60, n_73, n_76, n_97, n_99, n_100, n_106, n_109, n_120, n_122, n_136, n_160, n_176, n_200, n_255, n_800, n_1000, n_1001, n_1002, n_1003, n_1006, n_1012, n_1018, n_1019, n_1020, n_1100, n_1140, n_4800, n_4920, n_5940, n_6740, n_20220, F_X9_load, B_X9_load_20, k0, g7, hb1, k1, g5]
  obtain ⟨n, hn, rfl⟩ := hi.ex (by omega)
  -- the text
  obtain ⟨b, hbd⟩ : ∃ b : Nat → Nat, b = fun k => if k < n then nt (gI μ (x + 2) k) else 256 := ⟨_, rfl⟩
  have bl1 : ∀ k, k < n → gI μ (x + 2) k = nI (b k) ∧ b k < 256 := fun k hk => by
    have := (n3 k (by omega)).2.ex (by decide)
    rw [hbd]
    show _ = nI (if k < n then _ else _) ∧ (if k < n then _ else _) < 256
    rw [if_pos hk]
    exact ⟨this.1, by omega⟩
  have hT : TX b n := ⟨by omega, fun k hk => (bl1 k hk).2, fun k hk => by rw [hbd]; exact if_neg (by omega)⟩
  have hlim : ∀ k, k < 8 → gI μ (x + 1 + 6 + 2 * k) 1 = nI (lms.getD k 0) := fun k hk => by
    have := hL k hk
    rw [show x + 1 + 5 + 1 + 2 * k = x + 1 + 6 + 2 * k from by omega] at this
    exact this
  obtain ⟨μs, es, cs5, fs⟩ := x5_start (d := x + 1) hs.rd (by omega) hlim hT (fun k hk => (bl1 k hk).1)
  -- the reference's start, over any memory that holds its things
  have hstart : ∀ ν : Mem, SR ν (x + 120) → gI ν (x + 120) 7 = nI N → (∀ k, k < n → gI ν (x + 126) k = nI (b k)) → ∃ ν2, F_X9_load (x + 120) (nI n) ν = L_X9_load_71 FU (x + 120) (nI 1) ν2 ∧ RM ν2 (x + 120) b n 0 ZR (fun _ => 0) (fun _ _ => []) ∧ Fx (fun a => a = x + 120 ∨ a = x + 122) ν ν2 ∧ gI ν2 (x + 120) 5 = nI 0 ∧ gI ν2 (x + 120) 7 = nI 0 := by
    intro ν s g7 gt
    have hN9 : (0 : Int64).toInt = 0 := by decide +kernel
    have hb1 : F_X9_between (nI n).toInt64 (0 : Int64) ((nI N).toInt64) ν = some (nI 1) := by
      rw [x9_bt, I64_T, I64_T, nI_toInt (by omega), nI_toInt (by omega), hN9, if_pos ⟨by omega, by omega⟩]
    have fa : Fx (fun a => a = x + 120) ν (stI (stI (stI (stI (stI (stI ν (x + 120) 5 (nI 0)) (x + 120) 10 (nI n)) (x + 120) 7 (nI 0)) (x + 120) 12 (nI 0)) (x + 120) 16 (nI 0)) (x + 120) 17 (-nI 1)) := (Fx.stI (P := fun a => a = x + 120) rfl).trans ((Fx.stI (P := fun a => a = x + 120) rfl).trans ((Fx.stI (P := fun a => a = x + 120) rfl).trans ((Fx.stI (P := fun a => a = x + 120) rfl).trans ((Fx.stI (P := fun a => a = x + 120) rfl).trans (Fx.stI rfl)))))
    have g5 : gI (stI (stI (stI (stI (stI (stI ν (x + 120) 5 (nI 0)) (x + 120) 10 (nI n)) (x + 120) 7 (nI 0)) (x + 120) 12 (nI 0)) (x + 120) 16 (nI 0)) (x + 120) 17 (-nI 1)) (x + 120) 5 = nI 0 := by simp (disch := omega) only [q_iI, q_us, q_un]
    have g10 : gI (stI (stI (stI (stI (stI (stI ν (x + 120) 5 (nI 0)) (x + 120) 10 (nI n)) (x + 120) 7 (nI 0)) (x + 120) 12 (nI 0)) (x + 120) 16 (nI 0)) (x + 120) 17 (-nI 1)) (x + 120) 10 = nI n := by simp (disch := omega) only [q_iI, q_us, q_un]
    have g7b : gI (stI (stI (stI (stI (stI (stI ν (x + 120) 5 (nI 0)) (x + 120) 10 (nI n)) (x + 120) 7 (nI 0)) (x + 120) 12 (nI 0)) (x + 120) 16 (nI 0)) (x + 120) 17 (-nI 1)) (x + 120) 7 = nI 0 := by simp (disch := omega) only [q_iI, q_us, q_un]
    have g12 : gI (stI (stI (stI (stI (stI (stI ν (x + 120) 5 (nI 0)) (x + 120) 10 (nI n)) (x + 120) 7 (nI 0)) (x + 120) 12 (nI 0)) (x + 120) 16 (nI 0)) (x + 120) 17 (-nI 1)) (x + 120) 12 = nI 0 := by simp (disch := omega) only [q_iI, q_us, q_un]
    have g16 : gI (stI (stI (stI (stI (stI (stI ν (x + 120) 5 (nI 0)) (x + 120) 10 (nI n)) (x + 120) 7 (nI 0)) (x + 120) 12 (nI 0)) (x + 120) 16 (nI 0)) (x + 120) 17 (-nI 1)) (x + 120) 16 = nI 0 := by simp (disch := omega) only [q_iI, q_us, q_un]
    have g17 : gI (stI (stI (stI (stI (stI (stI ν (x + 120) 5 (nI 0)) (x + 120) 10 (nI n)) (x + 120) 7 (nI 0)) (x + 120) 12 (nI 0)) (x + 120) 16 (nI 0)) (x + 120) 17 (-nI 1)) (x + 120) 17 = -nI 1 := by rw [q_iI, q_us]
    have k0 := s.k0
    have y1 : gK (stI ν (x + 120) 5 (nI 0)) (x + 120) = 8 := k0
    have y2 : gK (stI (stI ν (x + 120) 5 (nI 0)) (x + 120) 10 (nI n)) (x + 120) = 8 := k0
    have y3 : gK (stI (stI (stI ν (x + 120) 5 (nI 0)) (x + 120) 10 (nI n)) (x + 120) 7 (nI 0)) (x + 120) = 8 := k0
    have y4 : gK (stI (stI (stI (stI ν (x + 120) 5 (nI 0)) (x + 120) 10 (nI n)) (x + 120) 7 (nI 0)) (x + 120) 12 (nI 0)) (x + 120) = 8 := k0
    have y5 : gK (stI (stI (stI (stI (stI ν (x + 120) 5 (nI 0)) (x + 120) 10 (nI n)) (x + 120) 7 (nI 0)) (x + 120) 12 (nI 0)) (x + 120) 16 (nI 0)) (x + 120) = 8 := k0
    have y0 : gI (stI ν (x + 120) 5 (nI 0)) (x + 120) 5 ≤ nI 0 := by rw [q_iI, q_us, nI_leI (by decide) (by decide)]; decide
    generalize hνa : stI (stI (stI (stI (stI (stI ν (x + 120) 5 (nI 0)) (x + 120) 10 (nI n)) (x + 120) 7 (nI 0)) (x + 120) 12 (nI 0)) (x + 120) 16 (nI 0)) (x + 120) 17 (-nI 1) = νa at *
    have sa := s.fx fa
    obtain ⟨νb, e1, c1, f1⟩ := x9_clearB (μ := νa) (a := x + 122) sa.k2 sa.l2
    have sb := sa.fx f1
    have gm : gI νb (x + 120) = gI νa (x + 120) := f1.I (by omega)
    have hB : RBs νb (x + 120) b n := ⟨sb, by rw [gm]; exact g10, hT, fun k hk => by rw [show x + 120 + 6 = x + 126 from rfl, f1.I (by omega), fa.I (by omega)]; exact gt k hk⟩
    obtain ⟨νc, e2, t2, f2, j2⟩ := x9_adv hB (p := 0) (by rw [gm]; exact g12) (Nat.zero_le _)
    refine ⟨νc, ?_, ⟨hB.mm f2 (j2 10 (by omega)), t2, Nat.zero_le _, fun i hi6 => ?_, fun t r _ hr => absurd (show r < 0 from hr) (Nat.not_lt_zero _), ⟨fun t r _ hr => absurd (show r < 0 from hr) (Nat.not_lt_zero _), fun t r _ _ _ _ hr => absurd (show r < 0 from hr) (Nat.not_lt_zero _)⟩, fun t _ => Nat.zero_le _, by rw [j2 16 (by omega), gm]; exact g16, by rw [j2 17 (by omega), gm]; exact g17⟩, (fa.mono (fun a ha => Or.inl ha)).trans ((f1.mono (fun a ha => Or.inr ha)).trans (f2.mono (fun a ha => Or.inl ha))), by rw [j2 5 (by omega), gm]; exact g5, by rw [j2 7 (by omega), gm]; exact g7b⟩
    · have ka := sa.k0
      have r1 := sa.r1
      have kb := sb.k0
      have e1' : F_X9_clearBoard (x + 120 + 2) νa = some νb := e1
      clear hB t2 f2 j2 f1 c1 fa s sa sb gt g5 g10 g7b g12 g16 g17 gm e1 hbd bl1 hT es cs5 fs n3 h hL hlim
      simp (disch := first | assumption | omega) only [q_bl, q_baT, q_bi, q_ba, q_pr, q_ob, q_iT, q_iN, q_it, q_if, q_of, nI_add, pk_mul, pk_sub, nI_leI, nI_ltI, nI_eq, nI_clamp, nI_lt0, nI_eqm, m1_eq, true_or, or_true, not_false_eq_true, m1_lt, m1_nlt, m1_le, m1_nle, b01, b011, q_em, q_m1, n_0, n_1, n_2, n_3, n_4, n_5, n_6, n_7, n_8, n_9, n_10, n_11, n_12, n_14, n_15, n_16, n_20, n_24, n_25, n_32, n_36, n_40, n_41, n_42, n_43, n_45, n_46, n_48, n_57, n_59, n_60, n_73, n_76, n_97, n_99, n_100, n_106, n_109, n_120, n_122, n_136, n_160, n_176, n_200, n_255, n_800, n_1000, n_1001, n_1002, n_1003, n_1006, n_1012, n_1018, n_1019, n_1020, n_1100, n_1140, n_4800, n_4920, n_5940, n_6740, n_20220, F_X9_load, B_X9_load_20, k0, g7, hb1, y0, y1, y2, y3, y4, y5, hνa, ka, r1, e1', kb, e2]
    · rw [f2.I (by omega)]
      have := c1 i
      rw [if_pos hi6] at this
      exact this
  have hVA : VA ZR (fun _ => 0) := ⟨ZR_wb, ZR_ext.1, fun t ht => by rw [ZR_n (by omega)]⟩
  have hboth : ∃ xx μ', F_X5_readText (x + 1) (nI n) μ = some (xx, μ') ∧ FR (x + 1) μ μ' ∧ ((xx = nI 1 ∧ ∃ p1 ls1 A' nc' wn', CR μ' (x + 1) b n 0 (.inr (p1, ls1, A', nc', wn')) ∧ VA A' nc') ∨ (xx = nI 0 ∧ ∃ e, CR μ' (x + 1) b n 0 (.inl e))) ∧
      ∀ ν : Mem, SR ν (x + 120) → gI ν (x + 120) 7 = nI N → (∀ k, k < n → gI ν (x + 126) k = nI (b k)) → ∃ ν', F_X9_load (x + 120) (nI n) ν = B_X9_load_105 (x + 120) xx ν' ∧ Fx (fun a => a = x + 120 ∨ a = x + 122 ∨ a = x + 127) ν ν' ∧ gI ν' (x + 120) 5 = nI 0 ∧ gI ν' (x + 120) 7 = nI 0 ∧
        ((xx = nI 1 ∧ ∃ p1 ls1 p2 A' nc' wn', CR μ' (x + 1) b n 0 (.inr (p1, ls1, A', nc', wn')) ∧ RM ν' (x + 120) b n p2 A' nc' wn' ∧ VA A' nc') ∨ (xx = nI 0 ∧ ∃ e, CR μ' (x + 1) b n 0 (.inl e) ∧ RE ν' (x + 120) e)) := by
    obtain ⟨ν0, -, r0, -⟩ := hstart μ sr n2 (fun k hk => by rw [← (n3 k (by omega)).1]; exact (bl1 k hk).1)
    obtain ⟨xx, μ', ν1, e1, -, f1, -, alt⟩ := joint (d := x + 1) (m := x + 120) 1101 FU FU 0 0 μs ν0 ZR (fun _ => 0) (fun _ _ => []) (FU_gt (by decide)) (FU_gt (by decide)) rfl (Nat.le_refl _) cs5 r0 hVA
    have eT : F_X5_readText (x + 1) (nI n) μ = some (xx, μ') := by
      unfold F_X5_readText
      rw [q_ba q0, es, q_ob]
      exact e1
    refine ⟨xx, μ', eT, fs.trans f1, ?_, fun ν s g7 gt => ?_⟩
    · rcases alt with ⟨rfl, p1, ls1, p2, A', nc', wn', c1, c2, c3⟩ | ⟨rfl, e, c1, c2⟩
      · exact Or.inl ⟨rfl, p1, ls1, A', nc', wn', c1, c3⟩
      · exact Or.inr ⟨rfl, e, c1⟩
    · obtain ⟨ν2, e2, r2, f2, g5, g72⟩ := hstart ν s g7 gt
      obtain ⟨xy, μy, ν3, e3, e4, f3, f4, alt2⟩ := joint (d := x + 1) (m := x + 120) 1101 FU FU 0 0 μs ν2 ZR (fun _ => 0) (fun _ _ => []) (FU_gt (by decide)) (FU_gt (by decide)) rfl (Nat.le_refl _) cs5 r2 hVA
      rw [e1] at e3
      cases e3
      refine ⟨ν3, by rw [e2]; exact e4, (f2.mono (fun a ha => by omega)).trans (f4.1.mono (fun a ha => by omega)), by rw [f4.2 5 (by decide)]; exact g5, by rw [f4.2 7 (by decide)]; exact g72, alt2⟩
  clear hstart hVA cs5 fs es
  obtain ⟨xx, μ', eT, fT, alt, href⟩ := hboth
  have hs' := hs.fx fT.1
  have q0' := hs'.rd.1
  have le1 : nI n ≤ nI N := by rw [nI_leI (by omega) (by omega)]; omega
  have n0 : ¬ nI n < nI 0 := by rw [nI_ltI (by omega) (by decide)]; omega
  have fb : Fx (fun a => a = x + 1) μ' (stI μ' (x + 1) 1 (nI 0)) := Fx.stI rfl
  have hsb := hs'.fx fb
  have gb1 : gI (stI μ' (x + 1) 1 (nI 0)) (x + 1) 1 = nI 0 := by rw [q_iI, q_us]
  have gbj : ∀ j, ¬ j = 1 → gI (stI μ' (x + 1) 1 (nI 0)) (x + 1) j = gI μ' (x + 1) j := fun j hj => by rw [q_iI, q_un (by omega)]
  generalize hμb : stI μ' (x + 1) 1 (nI 0) = μb at *
  have fTb : Fx (fun a => x + 1 ≤ a ∧ a < x + 26 ∧ ¬ a = x + 2) μ μb := (fT.1.mono (fun a ha => by omega)).trans (fb.mono (fun a ha => by omega))
  have qb := hsb.rd.1
  rcases alt with ⟨rfl, p1, ls1, A', nc', wn', c1, v1⟩ | ⟨rfl, e0, c1⟩
  · -- a legal text
    have setup : ∀ (A' : SA) (nc' : Nat → Nat) (wn' : Nat → Nat → List Nat) (p1 ls1 : Nat), CR μ' (x + 1) b n 0 (.inr (p1, ls1, A', nc', wn')) → VA A' nc' → ∃ μc, F_X3_takeSetup (x + 26) (x + 1 + 5) (x + 1 + 23) μb = some μc ∧ MO μc (x + 26) (sp_reset A') 0 ∧ Fx (MR (x + 26)) μb μc := by
      intro A' nc' wn' p1 ls1 c1 v1
      have hr : RBD (gI μb) (x + 5) A' := by
        have h0 := ct_rbd c1.2.2.2.2.2.2.2 v1
        have e : ∀ a, ¬ a = x + 1 → gI μb a = gI μ' a := fun a ha => fb.I ha
        obtain ⟨⟨z0, z1, z2, z3, z4, z5, z6, z7, z8⟩, z9⟩ := h0
        refine ⟨⟨?_, ?_, ?_, ?_, ?_, ?_, ?_, ?_, ?_⟩, ?_⟩
        · unfold RT; rw [e _ (by omega), e _ (by omega)]; exact z0
        · unfold RT; rw [e _ (by omega), e _ (by omega)]; exact z1
        · unfold RT; rw [e _ (by omega), e _ (by omega)]; exact z2
        · unfold RT; rw [e _ (by omega), e _ (by omega)]; exact z3
        · unfold RT; rw [e _ (by omega), e _ (by omega)]; exact z4
        · unfold RT; rw [e _ (by omega), e _ (by omega)]; exact z5
        · unfold RT; rw [e _ (by omega), e _ (by omega)]; exact z6
        · unfold RT7; rw [e _ (by omega), e _ (by omega)]; exact z7
        · intro l l1 l2; rw [e _ (by omega)]; exact z8 l l1 l2
        · unfold RD; rw [e _ (by omega), e _ (by omega)]; exact z9
      have sb := hsb.rd.2.2.2.2.2.2.2.2.2.2.2.2.2.2.2.1
      have sd := hsb.rd.2.2.2.2.2.2.2.2.2.2.2.2.2.2.2.2
      exact x3_setup (r := x + 26) (r2 := x + 5) hsb.m1 sb sd hr v1.1 (by omega)
    obtain ⟨μc, ec, mc, fc⟩ := setup A' nc' wn' p1 ls1 c1 v1
    have hsc := hsb.fx fc
    have f1 : Fx (fun a => (x + 1 ≤ a ∧ a < x + 57 ∧ ¬ a = x + 2) ∨ a = x + 132) μ (stJ μc (x + 132) 0 (gI μc (x + 26 + 19) 1).toInt64) := (fTb.mono (fun a ha => Or.inl (by omega))).trans ((fc.mono (fun a ha => Or.inl (by unfold MR at ha; omega))).trans (Fx.stJ (Or.inr rfl)))
    obtain ⟨ν', e2, f2, g5, g7, alt2⟩ := href (stJ μc (x + 132) 0 (gI μc (x + 26 + 19) 1).toInt64) (sr.fx f1) (by rw [f1.I (by omega)]; exact n2) (fun k hk => by rw [f1.I (by omega), ← (n3 k (by omega)).1]; exact (bl1 k hk).1)
    rcases alt2 with ⟨-, p1', ls1', p2, A'', nc'', wn'', c1', r2, v2⟩ | ⟨hx, -⟩
    rotate_left
    · exact absurd hx (by decide +kernel)
    obtain ⟨μc', ec', mc', fc'⟩ := setup A'' nc'' wn'' p1' ls1' c1' v2
    rw [ec] at ec'
    cases ec'
    -- the reference's end
    have s2 := r2.sr
    have g16 := r2.2.2.2.2.2.2.2.1
    have g17 := r2.2.2.2.2.2.2.2.2
    have f3 : Fx (fun a => a = x + 120) ν' (stI (stI ν' (x + 120) 8 (nI 0)) (x + 120) 9 (-nI 1)) := (Fx.stI (P := fun a => a = x + 120) rfl).trans (Fx.stI rfl)
    have j3 : ∀ j, ¬ j = 8 → ¬ j = 9 → gI (stI (stI ν' (x + 120) 8 (nI 0)) (x + 120) 9 (-nI 1)) (x + 120) j = gI ν' (x + 120) j := fun j h8 h9 => by rw [q_iI, q_un (by omega), q_iI, q_un (by omega)]
    have j8 : gI (stI (stI ν' (x + 120) 8 (nI 0)) (x + 120) 9 (-nI 1)) (x + 120) 8 = nI 0 := by rw [q_iI, q_un (by omega), q_iI, q_us]
    have j9 : gI (stI (stI ν' (x + 120) 8 (nI 0)) (x + 120) 9 (-nI 1)) (x + 120) 9 = -nI 1 := by rw [q_iI, q_us]
    have y1 : gK (stI ν' (x + 120) 8 (nI 0)) (x + 120) = 8 := s2.k0
    have y17 : gI (stI ν' (x + 120) 8 (nI 0)) (x + 120) 17 = -nI 1 := by rw [q_iI, q_un (by omega)]; exact g17
    generalize hνa : stI (stI ν' (x + 120) 8 (nI 0)) (x + 120) 9 (-nI 1) = νa at *
    have sa := s2.fx f3
    obtain ⟨νb, e4, d4, f4⟩ := x9_copy (μ := νa) (a := x + 120 + 2) (c := x + 120 + 1) (p := 0) (q := 0) (by omega) (by decide) (by decide) sa.k2 sa.k1 (by rw [sa.l2]; decide) (by rw [sa.l1]; decide)
    have hB : ∀ i, i < 6740 → gI νb (x + 120 + 1) i = A'' i := fun i hi6 => by
      rw [d4 i, if_pos (by omega), Nat.zero_add, Nat.sub_zero, f3.I (by omega)]
      exact r2.2.2.2.1 i hi6
    have rb : RA νb (x + 120) (gI νb (x + 120 + 1)) := ⟨sa.fx f4, rfl⟩
    obtain ⟨νc, e5, rc, f5⟩ := x9_rst rb
    generalize hBB : gI νb (x + 120 + 1) = B at *
    have sc := rc.1
    have f5' : Fx (fun a => a = x + 121) νb νc := f5.mono (fun a ha => ha)
    have f4' : Fx (fun a => a = x + 121) νa νb := f4.mono (fun a ha => ha)
    have fr : Fx (fun a => a = x + 120 ∨ a = x + 121 ∨ a = x + 122 ∨ a = x + 127) (stJ μc (x + 132) 0 (gI μc (x + 26 + 19) 1).toInt64) νc := (f2.mono (fun a ha => by omega)).trans ((f3.mono (fun a ha => by omega)).trans ((f4'.mono (fun a ha => by omega)).trans (f5'.mono (fun a ha => by omega))))
    have m120 : gI νc (x + 120) = gI νa (x + 120) := by rw [f5'.I (by omega), f4'.I (by omega)]
    have hex : ∀ j, j < 6740 → sp_reset B j = sp_reset A'' j := fun j hj => by unfold sp_reset; rw [hB j hj]
    have mfin : MO νc (x + 26) (sp_reset B) (BB (sp_reset B)) := by
      rw [BB.reset]
      exact ((mc'.fx (P := fun a => a = x + 132) (Fx.stJ rfl) (fun a a1 a2 q => by omega)).fx fr (fun a a1 a2 q => by omega)).ext hex
    have ftot : Fx (fun a => (x + 1 ≤ a ∧ a < x + 57 ∧ ¬ a = x + 2) ∨ a = x + 120 ∨ a = x + 121 ∨ a = x + 122 ∨ a = x + 127 ∨ a = x + 132) μ νc := (f1.mono (fun a ha => by omega)).trans (fr.mono (fun a ha => by omega))
    have g1c : ∀ a, x ≤ a → a < x + 26 → gI νc a = gI μb a := fun a a1 a2 => by rw [fr.I (by omega), q_iJ, fc.I (by unfold MR; omega)]
    have inv : INV νc x (sp_reset B) := by
      refine inv_load h ftot (fun a ha => ha) mfin rc.2 ?_ ?_ (fun k hk => ?_) ⟨?_, Or.inl ⟨?_, ?_⟩⟩
      · rw [g1c _ (by omega) (by omega)]; exact gb1
      · rw [m120, j3 7 (by decide) (by decide)]; exact g7
      · rw [g1c _ (by omega) (by omega), fb.I (by omega), show x + 7 + 2 * k = x + 1 + 6 + 2 * k from by omega]
        exact (c1'.1.2.2.2.2.1 k hk).1
      · rw [g1c _ (by omega) (by omega), gbj 13 (by decide), m120, j8]; exact c1'.2.1
      · rw [g1c _ (by omega) (by omega), gbj 13 (by decide)]; exact c1'.2.1
      · rw [m120]; exact j9
    have g8 : gI μc (x + 26 + 19) 1 = A'' 8 := by
      have := mc'.2.1.2.1.1
      rw [this, reset_lo (by decide)]
    have hB8 : gI νc (x + 120 + 1) 8 = A'' 8 := by rw [rc.2, reset_lo (by decide)]; exact hB 8 (by decide)
    refine ⟨nI 0, stJ μc (x + 132) 0 (gI μc (x + 26 + 19) 1).toInt64, A'' 8, νc, ?_, ?_, ?_, fun _ => ?_, inv.1, _, inv⟩
    · have sm := hsc.m1
      have smb := hsb.m1
      have kx := hs.kx
      have kx' := hs'.kx
      have kb := hsb.kx
      have kc := hsc.kx
      have r0 := hs.r0
      have r0' := hs'.r0
      have r0b := hsb.r0
      have r1b := hsb.r1
      have r1c := hsc.r1
      have r15 := hsb.rd.2.2.2.2.2.1
      have r16 := hsb.rd.2.2.2.2.2.2.1
      have ko := hsc.ko
      have lo := hsc.lo
      have t0 := smb.k0
      have t1 := sm.k0
      have t2 := sm.r1
      have t3 := sm.k19
      clear h hL n3 hbd bl1 hT hlim href setup c1 v1 c1' v2 r2 mc mc' fc fc' f1 f2 f3 f4 f5 f4' f5' fr ftot inv mfin hex hB hB8 rb rc s2 sa sc fT fTb fb hs hs' hsb hsc sr g8 d4 g1c m120 j3 sm smb
      simp (disch := first | assumption | omega) only [q_bl, q_baT, q_bi, q_ba, q_pr, q_ob, q_iT, q_iN, q_it, q_if, q_of, nI_add, pk_mul, pk_sub, nI_leI, nI_ltI, nI_eq, nI_clamp, nI_lt0, nI_eqm, m1_eq, true_or, or_true, not_false_eq_true, m1_lt, m1_nlt, m1_le, m1_nle, b01, b011, q_em, q_m1, n_0, n_1, n_2, n_3, n_4, n_5, n_6, n_7, n_8, n_9, n_10, n_11, n_12, n_14, n_15, n_16, n_20, n_24, n_25, n_32, n_36, n_40, n_41, n_42, n_43, n_45, n_46, n_48, n_57, n_59, n_60, n_73, n_76, n_97, n_99, n_100, n_106, n_109, n_120, n_122, n_136, n_160, n_176, n_200, n_255, n_800, n_1000, n_1001, n_1002, n_1003, n_1006, n_1012, n_1018, n_1019, n_1020, n_1100, n_1140, n_4800, n_4920, n_5940, n_6740, n_20220, F_L_load, F_X8_load, q_prL, q_prR, kx, r0, q0, n1, n0, le1, eT, kx', r0', q0', hμb, kb, r0b, qb, r1b, t0, r15, r16, ec, kc, r1c, t1, t2, t3, ko, lo]
    · rw [e2]
      have z0 := s2.k0
      have z1 := sa.k0
      have z2 := sa.r1
      have z3 := sa.r0
      have z4 := rb.1.k0
      have z5 := sc.k0
      have z6 := sc.r0
      have z7 := sc.k1
      have z8 := sc.l1
      clear h hL n3 hbd bl1 hT hlim href setup c1 v1 c1' v2 r2 mc mc' fc fc' f1 f2 f3 f4 f5 f4' f5' fr ftot inv mfin hex hB rb rc s2 sa sc fT fTb fb hs hs' hsb hsc sr g8 d4 g1c m120 j3
      simp (disch := first | assumption | omega) only [q_bl, q_baT, q_bi, q_ba, q_pr, q_ob, q_iT, q_iN, q_it, q_if, q_of, nI_add, pk_mul, pk_sub, nI_leI, nI_ltI, nI_eq, nI_clamp, nI_lt0, nI_eqm, m1_eq, true_or, or_true, not_false_eq_true, m1_lt, m1_nlt, m1_le, m1_nle, b01, b011, q_em, q_m1, n_0, n_1, n_2, n_3, n_4, n_5, n_6, n_7, n_8, n_9, n_10, n_11, n_12, n_14, n_15, n_16, n_20, n_24, n_25, n_32, n_36, n_40, n_41, n_42, n_43, n_45, n_46, n_48, n_57, n_59, n_60, n_73, n_76, n_97, n_99, n_100, n_106, n_109, n_120, n_122, n_136, n_160, n_176, n_200, n_255, n_800, n_1000, n_1001, n_1002, n_1003, n_1006, n_1012, n_1018, n_1019, n_1020, n_1100, n_1140, n_4800, n_4920, n_5940, n_6740, n_20220, B_X9_load_105, z0, g16, y1, y17, hνa, z1, z2, z3, e4, z4, e5, z5, z6, z7, z8, hB8]
    · rw [m120, j3 5 (by decide) (by decide)]; exact g5
    · show gJ νc (x + 132) 0 = (A'' 8).toInt64
      rw [fr.J (by omega), q_jJ, q_us, g8]
  · -- a text that isn't legal
    have f1 : Fx (fun a => (x + 1 ≤ a ∧ a < x + 57 ∧ ¬ a = x + 2) ∨ a = x + 132) μ (stJ μb (x + 132) 0 (-nI 3).toInt64) := (fTb.mono (fun a ha => Or.inl (by omega))).trans (Fx.stJ (Or.inr rfl))
    obtain ⟨ν', e2, f2, g5, g7, alt2⟩ := href (stJ μb (x + 132) 0 (-nI 3).toInt64) (sr.fx f1) (by rw [f1.I (by omega)]; exact n2) (fun k hk => by rw [f1.I (by omega), ← (n3 k (by omega)).1]; exact (bl1 k hk).1)
    rcases alt2 with ⟨hx, -⟩ | ⟨-, e, c1', r2⟩
    · exact absurd hx (by decide +kernel)
    have s1 := sr.fx f1
    have s2 := s1.fx f2
    have f3 : Fx (fun a => a = x + 120) ν' (stI (stI ν' (x + 120) 8 (nI e.1)) (x + 120) 9 (nI e.2)) := (Fx.stI (P := fun a => a = x + 120) rfl).trans (Fx.stI rfl)
    have j3 : ∀ j, ¬ j = 8 → ¬ j = 9 → gI (stI (stI ν' (x + 120) 8 (nI e.1)) (x + 120) 9 (nI e.2)) (x + 120) j = gI ν' (x + 120) j := fun j h8 h9 => by rw [q_iI, q_un (by omega), q_iI, q_un (by omega)]
    have j8 : gI (stI (stI ν' (x + 120) 8 (nI e.1)) (x + 120) 9 (nI e.2)) (x + 120) 8 = nI e.1 := by rw [q_iI, q_un (by omega), q_iI, q_us]
    have j9 : gI (stI (stI ν' (x + 120) 8 (nI e.1)) (x + 120) 9 (nI e.2)) (x + 120) 9 = nI e.2 := by rw [q_iI, q_us]
    have y1 : gK (stI ν' (x + 120) 8 (nI e.1)) (x + 120) = 8 := s2.k0
    have y17 : gI (stI ν' (x + 120) 8 (nI e.1)) (x + 120) 17 = nI e.2 := by rw [q_iI, q_un (by omega)]; exact r2.2.1
    generalize hνa : stI (stI ν' (x + 120) 8 (nI e.1)) (x + 120) 9 (nI e.2) = νa at *
    have fr : Fx (fun a => a = x + 120 ∨ a = x + 122 ∨ a = x + 127) (stJ μb (x + 132) 0 (-nI 3).toInt64) νa := (f2.mono (fun a ha => by omega)).trans (f3.mono (fun a ha => by omega))
    have ftot : Fx (fun a => (x + 1 ≤ a ∧ a < x + 57 ∧ ¬ a = x + 2) ∨ a = x + 120 ∨ a = x + 121 ∨ a = x + 122 ∨ a = x + 127 ∨ a = x + 132) μ νa := (f1.mono (fun a ha => by omega)).trans (fr.mono (fun a ha => by omega))
    have g1c : ∀ a, x ≤ a → a < x + 26 → gI νa a = gI μb a := fun a a1 a2 => by rw [fr.I (by omega), q_iJ]
    have mfin : MO νa (x + 26) A (BB A) := by
      refine ((h.mo.fx fTb (fun a a1 a2 q => by omega)).fx (P := fun a => a = x + 132) (Fx.stJ rfl) (fun a a1 a2 q => by omega)).fx fr (fun a a1 a2 q => by omega)
    have c13 : gI μ' (x + 1) 13 = nI e.1 := c1'.2.1
    have c14 : gI μ' (x + 1) 14 = nI e.2 := c1'.2.2.2.2.1
    have inv : INV νa x A := by
      refine inv_load h ftot (fun a ha => ha) mfin ?_ ?_ ?_ (fun k hk => ?_) ⟨?_, Or.inr ⟨?_, ?_⟩⟩
      · rw [fr.I (by omega), f1.I (by omega)]; exact h.2.2.1
      · rw [g1c _ (by omega) (by omega)]; exact gb1
      · rw [j3 7 (by decide) (by decide)]; exact g7
      · rw [g1c _ (by omega) (by omega), fb.I (by omega), show x + 7 + 2 * k = x + 1 + 6 + 2 * k from by omega]
        exact (c1'.1.2.2.2.2.1 k hk).1
      · rw [g1c _ (by omega) (by omega), gbj 13 (by decide), j8]; exact c13
      · rw [g1c _ (by omega) (by omega), gbj 13 (by decide)]; exact CE.ne c1'.2
      · rw [g1c _ (by omega) (by omega), gbj 14 (by decide), j9]; exact c14
    refine ⟨nI 0, stJ μb (x + 132) 0 (-nI 3).toInt64, -nI 3, νa, ?_, ?_, ?_, fun _ => ?_, inv.1, _, inv⟩
    · have kx := hs.kx
      have kx' := hs'.kx
      have r0 := hs.r0
      have r0' := hs'.r0
      have ko := hsb.ko
      have lo := hsb.lo
      clear h hL n3 hbd bl1 hT hlim href c1 c1' r2 f1 f2 f3 fr ftot inv mfin s1 s2 fT fTb fb hs hs' hsb sr g1c j3
      simp (disch := first | assumption | omega) only [q_bl, q_baT, q_bi, q_ba, q_pr, q_ob, q_iT, q_iN, q_it, q_if, q_of, nI_add, pk_mul, pk_sub, nI_leI, nI_ltI, nI_eq, nI_clamp, nI_lt0, nI_eqm, m1_eq, true_or, or_true, not_false_eq_true, m1_lt, m1_nlt, m1_le, m1_nle, b01, b011, q_em, q_m1, n_0, n_1, n_2, n_3, n_4, n_5, n_6, n_7, n_8, n_9, n_10, n_11, n_12, n_14, n_15, n_16, n_20, n_24, n_25, n_32, n_36, n_40, n_41, n_42, n_43, n_45, n_46, n_48, n_57, n_59, n_60, n_73, n_76, n_97, n_99, n_100, n_106, n_109, n_120, n_122, n_136, n_160, n_176, n_200, n_255, n_800, n_1000, n_1001, n_1002, n_1003, n_1006, n_1012, n_1018, n_1019, n_1020, n_1100, n_1140, n_4800, n_4920, n_5940, n_6740, n_20220, F_L_load, F_X8_load, q_prL, q_prR, kx, r0, q0, n1, n0, le1, eT, kx', r0', q0', hμb, ko, lo]
    · rw [e2]
      have z0 := s2.k0
      have z16 := r2.1
      clear h hL n3 hbd bl1 hT hlim href c1 c1' r2 f1 f2 f3 fr ftot inv mfin s1 s2 fT fTb fb hs hs' hsb sr g1c j3
      simp (disch := first | assumption | omega) only [q_bl, q_baT, q_bi, q_ba, q_pr, q_ob, q_iT, q_iN, q_it, q_if, q_of, nI_add, pk_mul, pk_sub, nI_leI, nI_ltI, nI_eq, nI_clamp, nI_lt0, nI_eqm, m1_eq, true_or, or_true, not_false_eq_true, m1_lt, m1_nlt, m1_le, m1_nle, b01, b011, q_em, q_m1, n_0, n_1, n_2, n_3, n_4, n_5, n_6, n_7, n_8, n_9, n_10, n_11, n_12, n_14, n_15, n_16, n_20, n_24, n_25, n_32, n_36, n_40, n_41, n_42, n_43, n_45, n_46, n_48, n_57, n_59, n_60, n_73, n_76, n_97, n_99, n_100, n_106, n_109, n_120, n_122, n_136, n_160, n_176, n_200, n_255, n_800, n_1000, n_1001, n_1002, n_1003, n_1006, n_1012, n_1018, n_1019, n_1020, n_1100, n_1140, n_4800, n_4920, n_5940, n_6740, n_20220, B_X9_load_105, z0, z16, y1, y17, hνa]
    · rw [j3 5 (by decide) (by decide)]; exact g5
    · show gJ νa (x + 132) 0 = (-nI 3).toInt64
      rw [fr.J (by omega), q_jJ, q_us]
end LDY

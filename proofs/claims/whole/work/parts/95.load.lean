/-! LAYER 3: load -/
theorem x1_clearP {μ : Mem} {q : Nat} (h : SB μ q) : ∃ μ', F_X1_clearPlugs q μ = some μ' ∧ Fx (fun a => q + 1 ≤ a ∧ a < q + 18) μ μ' ∧ (∀ k, k < 8 → gI μ' (q + 1 + 2 * k) 2 = nI 0 ∧ gI μ' (q + 1 + 2 * k) 1 = gI μ (q + 1 + 2 * k) 1) ∧ ∀ j, j < 4 → gI μ' (q + 17) j = -nI 1 := by
  -- the tables, one after the other
  have step : ∀ (k : Nat) (ν : Mem), k < 8 → SB ν q → F_X6_clearRows (q + 1 + 2 * k) ν = some (stI ν (q + 1 + 2 * k) 2 (nI 0)) ∧ SB (stI ν (q + 1 + 2 * k) 2 (nI 0)) q := fun k ν hk hs => ⟨x6_clear (hs.2.1 k hk).2, hs.fx (P := fun a => a = q + 1 + 2 * k) (Fx.stI rfl)⟩
  obtain ⟨e0, s0⟩ := step 0 μ (by decide) h
  obtain ⟨e1, s1⟩ := step 1 _ (by decide) s0
  obtain ⟨e2, s2⟩ := step 2 _ (by decide) s1
  obtain ⟨e3, s3⟩ := step 3 _ (by decide) s2
  obtain ⟨e4, s4⟩ := step 4 _ (by decide) s3
  obtain ⟨e5, s5⟩ := step 5 _ (by decide) s4
  obtain ⟨e6, s6⟩ := step 6 _ (by decide) s5
  obtain ⟨e7, s7⟩ := step 7 _ (by decide) s6
  generalize m0 : stI μ (q + 1 + 2 * 0) 2 (nI 0) = μ0 at *
  generalize m1 : stI μ0 (q + 1 + 2 * 1) 2 (nI 0) = μ1 at *
  generalize m2 : stI μ1 (q + 1 + 2 * 2) 2 (nI 0) = μ2 at *
  generalize m3 : stI μ2 (q + 1 + 2 * 3) 2 (nI 0) = μ3 at *
  generalize m4 : stI μ3 (q + 1 + 2 * 4) 2 (nI 0) = μ4 at *
  generalize m5 : stI μ4 (q + 1 + 2 * 5) 2 (nI 0) = μ5 at *
  generalize m6 : stI μ5 (q + 1 + 2 * 6) 2 (nI 0) = μ6 at *
  generalize m7 : stI μ6 (q + 1 + 2 * 7) 2 (nI 0) = μ7 at *
  have ef := f_fill2 (r := q + 17) (v := -nI 1) s7.2.2.2.1 (by rw [s7.2.2.2.2]; decide)
  rw [s7.2.2.2.2] at ef
  have bd : ∀ (k : Nat) (ν : Mem), k < 8 → SB ν q → gK ν q = 1 ∧ gR ν q k = q + 1 + 2 * k ∧ gK ν (q + 1 + 2 * k) = 6 := fun k ν hk hs => ⟨hs.1, (hs.2.1 k hk).1, (hs.2.1 k hk).2.1⟩
  have b0 := bd 0 μ (by decide) h
  have b1 := bd 1 μ0 (by decide) s0
  have b2 := bd 2 μ1 (by decide) s1
  have b3 := bd 3 μ2 (by decide) s2
  have b4 := bd 4 μ3 (by decide) s3
  have b5 := bd 5 μ4 (by decide) s4
  have b6 := bd 6 μ5 (by decide) s5
  have b7 := bd 7 μ6 (by decide) s6
  have b8 := s7.1
  have b9 := s7.2.2.1
  have gB : ∀ k, k < 8 → gI μ7 (q + 1 + 2 * k) 1 = gI μ (q + 1 + 2 * k) 1 := fun k hk => by
    rw [← m7, q_iI, q_un (by omega), ← m6, q_iI, q_un (by omega), ← m5, q_iI, q_un (by omega), ← m4, q_iI, q_un (by omega), ← m3, q_iI, q_un (by omega), ← m2, q_iI, q_un (by omega), ← m1, q_iI, q_un (by omega), ← m0, q_iI, q_un (by omega)]
  have gA : ∀ k, k < 8 → gI μ7 (q + 1 + 2 * k) 2 = nI 0 := fun k hk => by
    match k, hk with
    | 0, _ => rw [← m7, q_iI, q_un (by omega), ← m6, q_iI, q_un (by omega), ← m5, q_iI, q_un (by omega), ← m4, q_iI, q_un (by omega), ← m3, q_iI, q_un (by omega), ← m2, q_iI, q_un (by omega), ← m1, q_iI, q_un (by omega), ← m0, q_iI, q_us]
    | 1, _ => rw [← m7, q_iI, q_un (by omega), ← m6, q_iI, q_un (by omega), ← m5, q_iI, q_un (by omega), ← m4, q_iI, q_un (by omega), ← m3, q_iI, q_un (by omega), ← m2, q_iI, q_un (by omega), ← m1, q_iI, q_us]
    | 2, _ => rw [← m7, q_iI, q_un (by omega), ← m6, q_iI, q_un (by omega), ← m5, q_iI, q_un (by omega), ← m4, q_iI, q_un (by omega), ← m3, q_iI, q_un (by omega), ← m2, q_iI, q_us]
    | 3, _ => rw [← m7, q_iI, q_un (by omega), ← m6, q_iI, q_un (by omega), ← m5, q_iI, q_un (by omega), ← m4, q_iI, q_un (by omega), ← m3, q_iI, q_us]
    | 4, _ => rw [← m7, q_iI, q_un (by omega), ← m6, q_iI, q_un (by omega), ← m5, q_iI, q_un (by omega), ← m4, q_iI, q_us]
    | 5, _ => rw [← m7, q_iI, q_un (by omega), ← m6, q_iI, q_un (by omega), ← m5, q_iI, q_us]
    | 6, _ => rw [← m7, q_iI, q_un (by omega), ← m6, q_iI, q_us]
    | 7, _ => rw [← m7, q_iI, q_us]
    | k + 8, h => omega
  have f7 : Fx (fun a => q + 1 ≤ a ∧ a < q + 18) μ μ7 := by
    have one : ∀ (ν : Mem) (k : Nat), k < 8 → Fx (fun a => q + 1 ≤ a ∧ a < q + 18) ν (stI ν (q + 1 + 2 * k) 2 (nI 0)) := fun ν k hk => Fx.stI ⟨by omega, by omega⟩
    have h0 := one μ 0 (by decide); rw [m0] at h0
    have h1 := one μ0 1 (by decide); rw [m1] at h1
    have h2 := one μ1 2 (by decide); rw [m2] at h2
    have h3 := one μ2 3 (by decide); rw [m3] at h3
    have h4 := one μ3 4 (by decide); rw [m4] at h4
    have h5 := one μ4 5 (by decide); rw [m5] at h5
    have h6 := one μ5 6 (by decide); rw [m6] at h6
    have h7 := one μ6 7 (by decide); rw [m7] at h7
    exact h0.trans (h1.trans (h2.trans (h3.trans (h4.trans (h5.trans (h6.trans h7))))))
  refine ⟨stF μ7 (q + 17) 0 4 (-nI 1), ?_, f7.trans (Fx.stF ⟨by omega, by omega⟩), fun k hk => ⟨?_, ?_⟩, fun j hj => by rw [q_iF, if_pos ⟨rfl, Nat.zero_le _, hj⟩]⟩
  · clear h s0 s1 s2 s3 s4 s5 s6 s7 step bd gA gB f7 m0 m1 m2 m3 m4 m5 m6 m7
    simp (disch := first | assumption | omega) only [q_bl, q_baT, q_bi, q_ba, q_pr, q_ob, q_iT, q_iN, q_it, q_if, q_of, nI_add, pk_mul, pk_sub, nI_leI, nI_ltI, nI_eq, nI_clamp, nI_lt0, nI_eqm, m1_eq, true_or, or_true, not_false_eq_true, m1_lt, m1_nlt, m1_le, m1_nle, b01, b011, q_em, q_m1, n_0, n_1, n_2, n_3, n_4, n_5, n_6, n_7, n_8, n_9, n_10, n_11, n_12, n_14, n_15, n_16, n_20, n_24, n_25, n_32, n_36, n_40, n_41, n_42, n_43, n_45, n_46, n_48, n_57, n_59, n_60, n_73, n_76, n_97, n_99, n_100, n_106, n_109, n_120, n_122, n_136, n_160, n_176, n_200, n_255, n_800, n_1000, n_1001, n_1002, n_1003, n_1006, n_1012, n_1018, n_1019, n_1020, n_1100, n_1140, n_4800, n_4920, n_5940, n_6740, n_20220, F_X1_clearPlugs, b0, b1, b2, b3, b4, b5, b6, b7, b8, b9, e0, e1, e2, e3, e4, e5, e6, e7, ef]
  · rw [q_iFo (by omega)]; exact gA k hk
  · rw [q_iFo (by omega)]; exact gB k hk
section LDX
variable {μ μ' μ1 : Mem} {x d m n : Nat} {b : Nat → Nat} {A : SA}
theorem ZR_ext : PK ZR ∧ ZB ZR := by
  refine ⟨fun i hi => ?_, fun k hk => ⟨?_, ?_, fun i j _ hi hj => ?_⟩, ?_, ?_⟩
  · rw [ZR_n (by omega)] at hi; omega
  · rw [ZR_z (by omega), nt0]
  · rw [ZR_n (by omega)]; exact Nat.zero_le _
  · have := ix_lt hi hj
    have hd := (tb_d k hk).1.2.2.2.2.2.1
    exact ZR_z (by omega)
  · rw [ZR_z (by omega), nt0]
  · rw [ZR_n (by omega)]; decide
/-- the class begins a text -/
theorem x5_start (hr : RDS μ d) (hN : n ≤ 1100) (hl : ∀ k, k < 8 → gI μ (d + 6 + 2 * k) 1 = nI (lms.getD k 0)) (hT : TX b n) (ht : ∀ k, k < n → gI μ (d + 1) k = nI (b k)) : ∃ μ', F_X5_startText d (nI n) μ = some μ' ∧ CW μ' d b n 0 ZR (fun _ => 0) (fun _ _ => []) ∧ FR d μ μ' := by
  have k0 := hr.1
  have r0 := hr.2.1
  have k1 := hr.2.2.2.2.2.2.2.1
  have l1 := hr.2.2.2.2.2.2.2.2.1
  have r15 := hr.2.2.2.2.2.1
  have r16 := hr.2.2.2.2.2.2.1
  have fa : Fx (fun a => a = d) μ (stI (stI (stI (stI μ d 2 (nI n)) d 3 (nI 0)) d 11 (nI 0)) d 13 (nI 0)) := (Fx.stI (P := fun a => a = d) rfl).trans ((Fx.stI (P := fun a => a = d) rfl).trans ((Fx.stI (P := fun a => a = d) rfl).trans (Fx.stI rfl)))
  have ga : ∀ j, gI (stI (stI (stI (stI μ d 2 (nI n)) d 3 (nI 0)) d 11 (nI 0)) d 13 (nI 0)) d j = if j = 2 then nI n else if j = 3 ∨ j = 11 ∨ j = 13 then nI 0 else gI μ d j := fun j => by
    by_cases h13 : j = 13
    · subst h13; rw [q_iI, q_us]; rfl
    · rw [q_iI, q_un (by omega)]
      by_cases h11 : j = 11
      · subst h11; rw [q_iI, q_us]; rfl
      · rw [q_iI, q_un (by omega)]
        by_cases h3 : j = 3
        · subst h3; rw [q_iI, q_us]; rfl
        · rw [q_iI, q_un (by omega), q_iI]
          by_cases h2 : j = 2
          · subst h2; rw [q_us]; rfl
          · rw [q_un (by omega), if_neg h2, if_neg (by omega)]
  generalize hμa : stI (stI (stI (stI μ d 2 (nI n)) d 3 (nI 0)) d 11 (nI 0)) d 13 (nI 0) = μa at *
  have ra := hr.fx fa
  have sb := ra.2.2.2.2.2.2.2.2.2.2.2.2.2.2.2.1
  obtain ⟨μb, e1, f1, c1, c2⟩ := x1_clearP sb
  have rb := ra.fx f1
  have sd := rb.2.2.2.2.2.2.2.2.2.2.2.2.2.2.2.2
  have e2 := x2_clear sd
  have f2 : Fx (fun a => a = d + 23) μb (stI μb (d + 23) 1 (nI 0)) := Fx.stI rfl
  have gc : gI (stI μb (d + 23) 1 (nI 0)) (d + 23) 1 = nI 0 := by rw [q_iI, q_us]
  generalize hμc : stI μb (d + 23) 1 (nI 0) = μc at *
  have rc := rb.fx f2
  have f12 : Fx (fun a => (d + 6 ≤ a ∧ a < d + 24)) μa μc := (f1.mono (fun a ha => by omega)).trans (f2.mono (fun a ha => by omega))
  have fall : Fx (fun a => a = d ∨ (d + 6 ≤ a ∧ a < d + 24)) μ μc := (fa.mono (fun a ha => Or.inl ha)).trans (f12.mono (fun a ha => Or.inr ha))
  have gd : ∀ j, gI μc d j = gI μa d j := fun j => by rw [f12.I (by omega)]
  have gt : ∀ k, k < 8 → gI μc (d + 6 + 2 * k) 2 = nI 0 ∧ gI μc (d + 6 + 2 * k) 1 = gI μ (d + 6 + 2 * k) 1 := fun k hk => by
    have := c1 k hk
    rw [show d + 5 + 1 + 2 * k = d + 6 + 2 * k from by omega] at this
    rw [f2.I (by omega)]
    exact ⟨this.1, by rw [this.2, fa.I (by omega)]⟩
  refine ⟨μc, ?_, ⟨⟨rc, by rw [gd, ga]; rfl, hT, fun k hk => by rw [fall.I (by omega)]; exact ht k hk, fun k hk => ⟨by rw [(gt k hk).2]; exact hl k hk, ⟨0, (gt k hk).1, by decide, by decide⟩⟩, ⟨0, gc, by decide, by decide⟩⟩, by rw [gd, ga]; rfl, by rw [gd, ga]; rfl, Nat.zero_le _, fun k hk => ⟨?_, fun i j hi => ?_⟩, fun l l1' l2' => ?_, ⟨?_, fun i k hi => ?_⟩, ZR_ext.2, ⟨by rw [gd, ga]; rfl, by decide, by decide, by decide, fun j hj => absurd (show j < 0 from hj) (Nat.not_lt_zero _), fun t r _ hr => absurd (show r < 0 from hr) (Nat.not_lt_zero _)⟩, ⟨fun t r _ hr => absurd (show r < 0 from hr) (Nat.not_lt_zero _), fun t r _ _ _ _ hr => absurd (show r < 0 from hr) (Nat.not_lt_zero _)⟩, fun t ht => Nat.zero_le _⟩, ⟨fall.mono (fun a ha => by omega), by rw [gd, ga]; rfl⟩⟩
  · have ka := ra.1
    have k15 := ra.2.2.2.2.2.1
    have kb := sb.1
    have kc := rb.1
    have k16 := rb.2.2.2.2.2.2.1
    have kd := sd.1
    have hμa' : ∀ ν : Mem, ν = stI μ d 2 (nI n) → stI (stI (stI ν d 3 (nI 0)) d 11 (nI 0)) d 13 (nI 0) = μa := fun ν h => by rw [h]; exact hμa
    have z1 := hμa
    have y0 : gK (stI μ d 2 (nI n)) d = 5 := k0
    have y1 : gK (stI (stI μ d 2 (nI n)) d 3 (nI 0)) d = 5 := k0
    have y2 : gK (stI (stI (stI μ d 2 (nI n)) d 3 (nI 0)) d 11 (nI 0)) d = 5 := k0
    clear hr ra rb rc sb sd fa ga f1 c1 c2 f2 gc f12 fall gd gt hl ht hT hμc hμa'
    by_cases hx : 1100 ≤ n
    · have h1100 : n = 1100 := by omega
      subst h1100
      simp (disch := first | assumption | omega) only [q_bl, q_baT, q_bi, q_ba, q_pr, q_ob, q_iT, q_iN, q_it, q_if, q_of, nI_add, pk_mul, pk_sub, nI_leI, nI_ltI, nI_eq, nI_clamp, nI_lt0, nI_eqm, m1_eq, true_or, or_true, not_false_eq_true, m1_lt, m1_nlt, m1_le, m1_nle, b01, b011, q_em, q_m1, n_0, n_1, n_2, n_3, n_4, n_5, n_6, n_7, n_8, n_9, n_10, n_11, n_12, n_14, n_15, n_16, n_20, n_24, n_25, n_32, n_36, n_40, n_41, n_42, n_43, n_45, n_46, n_48, n_57, n_59, n_60, n_73, n_76, n_97, n_99, n_100, n_106, n_109, n_120, n_122, n_136, n_160, n_176, n_200, n_255, n_800, n_1000, n_1001, n_1002, n_1003, n_1006, n_1012, n_1018, n_1019, n_1020, n_1100, n_1140, n_4800, n_4920, n_5940, n_6740, n_20220, F_X5_startText, B_X5_startText_19, k0, r0, k1, l1, y0, y1, y2, z1, ka, k15, kb, e1, kc, k16, kd, e2]
    · simp (disch := first | assumption | omega) only [q_bl, q_baT, q_bi, q_ba, q_pr, q_ob, q_iT, q_iN, q_it, q_if, q_of, nI_add, pk_mul, pk_sub, nI_leI, nI_ltI, nI_eq, nI_clamp, nI_lt0, nI_eqm, m1_eq, true_or, or_true, not_false_eq_true, m1_lt, m1_nlt, m1_le, m1_nle, b01, b011, q_em, q_m1, n_0, n_1, n_2, n_3, n_4, n_5, n_6, n_7, n_8, n_9, n_10, n_11, n_12, n_14, n_15, n_16, n_20, n_24, n_25, n_32, n_36, n_40, n_41, n_42, n_43, n_45, n_46, n_48, n_57, n_59, n_60, n_73, n_76, n_97, n_99, n_100, n_106, n_109, n_120, n_122, n_136, n_160, n_176, n_200, n_255, n_800, n_1000, n_1001, n_1002, n_1003, n_1006, n_1012, n_1018, n_1019, n_1020, n_1100, n_1140, n_4800, n_4920, n_5940, n_6740, n_20220, F_X5_startText, B_X5_startText_19, k0, r0, k1, l1, hx, y0, y1, y2, z1, ka, k15, kb, e1, kc, k16, kd, e2]
  · rw [(gt k hk).1, ZR_z (by omega)]
  · rw [ZR_n (by omega)] at hi; exact absurd hi (by omega)
  · have hl3 : ZR (73 + l - 1) = -nI 1 := ZR_m (by omega)
    rw [hl3, f2.I (by omega)]
    exact c2 l (by omega)
  · rw [gc, ZR_z (by omega)]
  · rw [ZR_n (by omega)] at hi; exact absurd hi (by omega)
/-- what is read is a plugboard and a deck -/
theorem ct_rbd {nc : Nat → Nat} {wn : Nat → Nat → List Nat} (h : CT μ (x + 1) A nc wn) (v : VA A nc) : RBD (gI μ) (x + 5) A := by
  obtain ⟨t1, t2, t3, -⟩ := h
  have q0 := t1 0 (by decide)
  have q1 := t1 1 (by decide)
  have q2 := t1 2 (by decide)
  have q3 := t1 3 (by decide)
  have q4 := t1 4 (by decide)
  have q5 := t1 5 (by decide)
  have q6 := t1 6 (by decide)
  have q7 := t1 7 (by decide)
  rw [show x + 1 + 6 + 2 * 0 = x + 5 + 2 from by omega] at q0
  rw [show x + 1 + 6 + 2 * 1 = x + 5 + 4 from by omega] at q1
  rw [show x + 1 + 6 + 2 * 2 = x + 5 + 6 from by omega] at q2
  rw [show x + 1 + 6 + 2 * 3 = x + 5 + 8 from by omega] at q3
  rw [show x + 1 + 6 + 2 * 4 = x + 5 + 10 from by omega] at q4
  rw [show x + 1 + 6 + 2 * 5 = x + 5 + 12 from by omega] at q5
  rw [show x + 1 + 6 + 2 * 6 = x + 5 + 14 from by omega] at q6
  rw [show x + 1 + 6 + 2 * 7 = x + 5 + 16 from by omega] at q7
  refine ⟨⟨q0, q1, q2, q3, q4, q5, q6, ⟨q7.1, fun i hi => ?_⟩, fun l l1 l2 => ?_⟩, ?_⟩
  · have z0 : gI μ (x + 5 + 16 + 1) (i * 5 + 0) = A (10000 + 5 * i + 0) := q7.2 i 0 hi (by decide)
    have z1 : gI μ (x + 5 + 16 + 1) (i * 5 + 1) = A (10000 + 5 * i + 1) := q7.2 i 1 hi (by decide)
    have z2 : gI μ (x + 5 + 16 + 1) (i * 5 + 2) = A (10000 + 5 * i + 2) := q7.2 i 2 hi (by decide)
    have z3 : gI μ (x + 5 + 16 + 1) (i * 5 + 3) = A (10000 + 5 * i + 3) := q7.2 i 3 hi (by decide)
    rw [Nat.add_zero (10000 + 5 * i)] at z0
    rw [z0, z1, z2, z3]
    exact v.2.1 i hi
  · have := t2 l l1 l2
    rw [show x + 1 + 22 = x + 5 + 18 from by omega] at this
    exact this
  · rw [show x + 1 + 23 = x + 5 + 19 from by omega] at t3
    exact t3
end LDX

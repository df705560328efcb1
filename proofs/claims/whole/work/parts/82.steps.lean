/-! LAYER 3: the class's reader: names, modes, options, rows -/
section STP
variable {μ μ' μ1 : Mem} {d n lo p ls : Nat} {b : Nat → Nat} {A : SA} {nc : Nat → Nat} {wn : Nat → Nat → List Nat}
theorem CB.f {P : Nat → Prop} (h : CB μ d b n) (f : Fx P μ μ') (hp : ∀ a, P a → a = d ∨ a = d + 2 ∨ a = d + 3 ∨ a = d + 4) (e : gI μ' d 2 = gI μ d 2) : CB μ' d b n := by
  obtain ⟨h1, h2, h3, h4, h5, h6⟩ := h
  refine ⟨h1.fx f, e.trans h2, h3, fun k hk => ?_, fun k hk => ?_, ?_⟩
  · rw [f.I (fun q => by have := hp _ q; omega)]; exact h4 k hk
  · rw [f.I (fun q => by have := hp _ q; omega)]; exact h5 k hk
  · rw [f.I (fun q => by have := hp _ q; omega)]; exact h6
theorem l5_find {key : Int64} {N : Nat} (hB : CB μ d b n) (h11 : gI μ d 11 = nI N) (hN : N ≤ 20) : ∀ (m fu i : Nat), m < fu → i + m = N → ∃ x, L_X5_findName_2 μ fu d key (nI i) = some x ∧ ((x = -nI 1 ∧ ∀ j, i ≤ j → j < N → ¬ gJ μ (d + 2) j = key) ∨ ∃ j, i ≤ j ∧ j < N ∧ x = nI j ∧ gJ μ (d + 2) j = key) := by
  have k0 := hB.kd
  have r8 := hB.r8
  have k2 := hB.k2
  have l2 := hB.l2
  clear hB
  intro m
  induction m with
  | zero =>
    intro fu i hf hi
    obtain ⟨fu, rfl⟩ : ∃ k, fu = k + 1 := ⟨fu - 1, by omega⟩
    obtain rfl : i = N := by omega
    refine ⟨-nI 1, ?_, Or.inl ⟨rfl, fun j _ _ => by omega⟩⟩
    simp (disch := first | assumption | omega) only [q_bl, q_baT, q_bi, q_ba, q_pr, q_ob, q_iT, q_iN, q_it, q_if, q_of, nI_add, pk_mul, pk_sub, nI_leI, nI_ltI, nI_eq, nI_clamp, nI_lt0, nI_eqm, m1_eq, true_or, or_true, not_false_eq_true, m1_lt, m1_nlt, m1_le, m1_nle, b01, b011, q_em, q_m1, n_0, n_1, n_2, n_3, n_4, n_5, n_6, n_7, n_8, n_9, n_10, n_11, n_12, n_14, n_15, n_16, n_20, n_24, n_25, n_32, n_36, n_40, n_41, n_42, n_43, n_45, n_46, n_48, n_57, n_59, n_60, n_73, n_76, n_97, n_99, n_100, n_106, n_109, n_120, n_122, n_136, n_160, n_176, n_200, n_255, n_800, n_1000, n_1001, n_1002, n_1003, n_1006, n_1012, n_1018, n_1019, n_1020, n_1100, n_1140, n_4800, n_4920, n_5940, n_6740, n_20220, L_X5_findName_2, B_X5_findName_2, k0, h11]
  | succ m ih =>
    intro fu i hf hi
    obtain ⟨fu, rfl⟩ : ∃ k, fu = k + 1 := ⟨fu - 1, by omega⟩
    obtain ⟨x, e, hx⟩ := ih fu (i + 1) (by omega) (by omega)
    have hc0 : (lg_cmp (gJ μ (d + 2) i) key = nI 0) = (gJ μ (d + 2) i = key) := propext (lg_cmp_eq _ _)
    by_cases h : gJ μ (d + 2) i = key
    · refine ⟨nI i, ?_, Or.inr ⟨i, Nat.le_refl _, by omega, rfl, h⟩⟩
      have hz := hc0.mpr h
      clear ih hx
      simp (disch := first | assumption | omega) only [q_bl, q_baT, q_bi, q_ba, q_pr, q_ob, q_iT, q_iN, q_it, q_if, q_of, nI_add, pk_mul, pk_sub, nI_leI, nI_ltI, nI_eq, nI_clamp, nI_lt0, nI_eqm, m1_eq, true_or, or_true, not_false_eq_true, m1_lt, m1_nlt, m1_le, m1_nle, b01, b011, q_em, q_m1, n_0, n_1, n_2, n_3, n_4, n_5, n_6, n_7, n_8, n_9, n_10, n_11, n_12, n_14, n_15, n_16, n_20, n_24, n_25, n_32, n_36, n_40, n_41, n_42, n_43, n_45, n_46, n_48, n_57, n_59, n_60, n_73, n_76, n_97, n_99, n_100, n_106, n_109, n_120, n_122, n_136, n_160, n_176, n_200, n_255, n_800, n_1000, n_1001, n_1002, n_1003, n_1006, n_1012, n_1018, n_1019, n_1020, n_1100, n_1140, n_4800, n_4920, n_5940, n_6740, n_20220, L_X5_findName_2, B_X5_findName_2, k0, h11, r8, k2, l2, hz]
    · refine ⟨x, ?_, ?_⟩
      · have hz : ¬ lg_cmp (gJ μ (d + 2) i) key = nI 0 := fun q => h (hc0.mp q)
        clear ih hx
        simp (disch := first | assumption | omega) only [q_bl, q_baT, q_bi, q_ba, q_pr, q_ob, q_iT, q_iN, q_it, q_if, q_of, nI_add, pk_mul, pk_sub, nI_leI, nI_ltI, nI_eq, nI_clamp, nI_lt0, nI_eqm, m1_eq, true_or, or_true, not_false_eq_true, m1_lt, m1_nlt, m1_le, m1_nle, b01, b011, q_em, q_m1, n_0, n_1, n_2, n_3, n_4, n_5, n_6, n_7, n_8, n_9, n_10, n_11, n_12, n_14, n_15, n_16, n_20, n_24, n_25, n_32, n_36, n_40, n_41, n_42, n_43, n_45, n_46, n_48, n_57, n_59, n_60, n_73, n_76, n_97, n_99, n_100, n_106, n_109, n_120, n_122, n_136, n_160, n_176, n_200, n_255, n_800, n_1000, n_1001, n_1002, n_1003, n_1006, n_1012, n_1018, n_1019, n_1020, n_1100, n_1140, n_4800, n_4920, n_5940, n_6740, n_20220, L_X5_findName_2, B_X5_findName_2, k0, h11, r8, k2, l2, hz, e]
      · rcases hx with ⟨x1, x2⟩ | ⟨j, j1, j2, j3, j4⟩
        · refine Or.inl ⟨x1, fun j h1 h2 => ?_⟩
          by_cases hj : j = i
          · subst hj; exact h
          · exact x2 j (by omega) h2
        · exact Or.inr ⟨j, by omega, j2, j3, j4⟩
theorem fnd {w : List Nat} (hB : CB μ d b n) (hC : CNm μ d nc wn) (hW : WN nc wn) (hw : lw w) : ∃ x, F_X5_findName d (lN (kk w)) μ = some x ∧ ((x = -nI 1 ∧ ∀ t r, t < 3 → r < nc t → ¬ wn t r = w) ∨ ∃ j t r, j < 20 ∧ x = nI j ∧ t < 3 ∧ r < nc t ∧ wn t r = w ∧ gI μ (d + 3) j = nI (2 ^ t) ∧ gI μ (d + 4) j = nI r) := by
  obtain ⟨a1, a2, a3, a4, a5, a6⟩ := hC
  obtain ⟨x, e, hx⟩ := l5_find (key := lN (kk w)) hB a1 (by omega) (nc 0 + nc 1 + nc 2) FU 0 (FU_gt (by omega)) (by omega)
  refine ⟨x, e, ?_⟩
  rcases hx with ⟨x1, x2⟩ | ⟨j, j1, j2, j3, j4⟩
  · refine Or.inl ⟨x1, fun t r ht hr hwe => ?_⟩
    obtain ⟨j, b1, b2⟩ := a6 t r ht hr
    exact x2 j (by omega) b1 (by rw [b2, hwe])
  · obtain ⟨t, r, b1, b2, b3, b4, b5⟩ := a5 j j2
    refine Or.inr ⟨j, t, r, by omega, j3, b1, b2, ?_, b4, b5⟩
    rw [b3, kL_inj (hW.1 t r b1 b2) hw] at j4
    exact j4
theorem ncu_sum {t : Nat} (ht : t < 3) : ncu nc t 0 + ncu nc t 1 + ncu nc t 2 = nc 0 + nc 1 + nc 2 + 1 := by
  match t, ht with
  | 0, _ => show (nc 0 + 1) + nc 1 + nc 2 = _; omega
  | 1, _ => show nc 0 + (nc 1 + 1) + nc 2 = _; omega
  | 2, _ => show nc 0 + nc 1 + (nc 2 + 1) = _; omega
  | t + 3, h => omega
theorem ncu_s {t : Nat} : ncu nc t t = nc t + 1 := if_pos rfl
theorem ncu_n {t u : Nat} (h : ¬ u = t) : ncu nc t u = nc u := if_neg h
theorem wnu_s {t r : Nat} {w : List Nat} : wnu wn t r w t r = w := if_pos ⟨rfl, rfl⟩
theorem wnu_n {t r u q : Nat} {w : List Nat} (h : ¬ (u = t ∧ q = r)) : wnu wn t r w u q = wn u q := if_neg h
theorem WN.add {t : Nat} {w : List Nat} (h : WN nc wn) (hw : lw w) (hn : ∀ u r, u < 3 → r < nc u → ¬ wn u r = w) : WN (ncu nc t) (wnu wn t (nc t) w) := by
  have hlt : ∀ u r, r < ncu nc t u → (u = t ∧ r = nc t) ∨ (r < nc u ∧ ¬ (u = t ∧ r = nc t)) := fun u r hr => by
    by_cases hu : u = t
    · subst hu; rw [ncu_s] at hr
      by_cases hr2 : r = nc u
      · exact Or.inl ⟨rfl, hr2⟩
      · exact Or.inr ⟨by omega, fun e => hr2 e.2⟩
    · rw [ncu_n hu] at hr; exact Or.inr ⟨hr, fun e => hu e.1⟩
  refine ⟨fun u r hu hr => ?_, fun u r u' r' hu hu' hr hr' e => ?_⟩
  · rcases hlt u r hr with ⟨rfl, rfl⟩ | ⟨h1, h2⟩
    · rw [wnu_s]; exact hw
    · rw [wnu_n h2]; exact h.1 u r hu h1
  · rcases hlt u r hr with ⟨rfl, rfl⟩ | ⟨h1, h2⟩
    · rcases hlt u' r' hr' with ⟨rfl, rfl⟩ | ⟨h1', h2'⟩
      · exact ⟨rfl, rfl⟩
      · rw [wnu_s, wnu_n h2'] at e; exact absurd e.symm (hn u' r' hu' h1')
    · rcases hlt u' r' hr' with ⟨rfl, rfl⟩ | ⟨h1', h2'⟩
      · rw [wnu_s, wnu_n h2] at e; exact absurd e (hn u r hu h1)
      · rw [wnu_n h2, wnu_n h2'] at e; exact h.2 u r u' r' hu hu' h1 h1' e
theorem tk1_ek (h : tk b n p = 1) : True := trivial
theorem gnew {t : Nat} {row : Int32} {g : GST} (ht : t < 3) (h : CR μ d b n lo g) (hr : ∀ p ls A nc wn, g = .inr (p, ls, A, nc, wn) → row = nI (nc t) ∧ nc t < nt (A t)) : ∃ μ', F_X5_takeNewName d (nI (2 ^ t)) row μ = some μ' ∧ CR μ' d b n lo (g_new b n t g) ∧ FR d μ μ' := by
  obtain ⟨hB, hG⟩ := h
  have k0 := hB.kd
  match g, hG, hr with
  | .inl e, hG, _ =>
    have e1 := x5_takeE (v := nI 1) hB hG
    refine ⟨μ, ?_, ⟨hB, hG⟩, FR.same⟩
    clear hB hG
    simp (disch := first | assumption | omega) only [q_bl, q_baT, q_bi, q_ba, q_pr, q_ob, q_iT, q_iN, q_it, q_if, q_of, nI_add, pk_mul, pk_sub, nI_leI, nI_ltI, nI_eq, nI_clamp, nI_lt0, nI_eqm, m1_eq, true_or, or_true, not_false_eq_true, m1_lt, m1_nlt, m1_le, m1_nle, b01, b011, q_em, q_m1, n_0, n_1, n_2, n_3, n_4, n_5, n_6, n_7, n_8, n_9, n_10, n_11, n_12, n_14, n_15, n_16, n_20, n_24, n_25, n_32, n_36, n_40, n_41, n_42, n_43, n_45, n_46, n_48, n_57, n_59, n_60, n_73, n_76, n_97, n_99, n_100, n_106, n_109, n_120, n_122, n_136, n_160, n_176, n_200, n_255, n_800, n_1000, n_1001, n_1002, n_1003, n_1006, n_1012, n_1018, n_1019, n_1020, n_1100, n_1140, n_4800, n_4920, n_5940, n_6740, n_20220, F_X5_takeNewName, k0, e1]
  | .inr (p, ls, A, nc, wn), hG, hr =>
    obtain ⟨rfl, hlt⟩ := hr p ls A nc wn rfl
    obtain ⟨μ1, tt, a1, a2⟩ := x5_takeO (kd := 1) (by decide) (by decide) hB hG
    have eg : g_new b n t (.inr (p, ls, A, nc, wn)) = if tk b n p = 1 then (if kwr (tw b n p) = 0 then (if lkf (wn 0) (tw b n p) (nc 0) = none ∧ lkf (wn 1) (tw b n p) (nc 1) = none ∧ lkf (wn 2) (tw b n p) (nc 2) = none then .inr (te b n p, ts b n p, A, ncu nc t, wnu wn t (nc t) (tw b n p)) else .inl (4, ts b n p)) else .inl (2, ts b n p)) else .inl (ek (tk b n p), ts b n p) := rfl
    rw [eg]
    clear eg
    by_cases hk : tk b n p = 1
    · have e1 := a1 hk
      obtain ⟨c1, c2⟩ := co_of hB hG tt
      have hw := tw_lw hk
      have k1 := c1.1.kd
      have o1 := c1.2.1
      have t4 := tt.2.1
      have g7 := tt.2.2.2.2.1 hk
      have hrw := x5_resw (μ := μ1) k1 tt.2.2.1 tt.2.2.2.2.1
      unfold trw at hrw
      rw [if_pos hk] at hrw
      rw [if_pos hk]
      by_cases hz : kwr (tw b n p) = 0
      · rw [if_pos hz]
        rw [hz] at hrw
        obtain ⟨q1, q2, q3, q4, q5, q6, q7, q8, q9, q10, q11, q12, q13⟩ := c1.2
        obtain ⟨x, ex, hx⟩ := fnd c1.1 q11 q12 hw
        rcases hx with ⟨rfl, hx⟩ | ⟨j, t0, r0, x1, rfl, x2, x3, x4, x5, x6⟩
        · have hno : lkf (wn 0) (tw b n p) (nc 0) = none ∧ lkf (wn 1) (tw b n p) (nc 1) = none ∧ lkf (wn 2) (tw b n p) (nc 2) = none := ⟨lkf_no (hx 0 · (by decide)), lkf_no (hx 1 · (by decide)), lkf_no (hx 2 · (by decide))⟩
          rw [if_pos hno]
          have hcu : ∀ u, u < 3 → ncu nc t u ≤ nt (A u) := fun u hu => by
            by_cases hut : u = t
            · subst hut; rw [ncu_s]; exact hlt
            · rw [ncu_n hut]; exact q13 u hu
          have hsum := ncu_sum (nc := nc) ht
          have z0 := (q10.1 0 (by decide)).2.1
          have z1 := (q10.1 1 (by decide)).2.1
          have z2 := (q10.1 2 (by decide)).2.1
          have z0' : nt (A 0) ≤ 8 := z0
          have z1' : nt (A 1) ≤ 6 := z1
          have z2' : nt (A 2) ≤ 6 := z2
          have w0 := hcu 0 (by decide)
          have w1 := hcu 1 (by decide)
          have w2 := hcu 2 (by decide)
          have hN : nc 0 + nc 1 + nc 2 < 20 := by omega
          obtain ⟨s1, s2, s3, s4, s5, s6⟩ := q11
          generalize hNN : nc 0 + nc 1 + nc 2 = N at *
          have f2 : Fx (fun a => a = d ∨ a = d + 2 ∨ a = d + 3 ∨ a = d + 4) μ1 (stI (stI (stI (stJ μ1 (d + 2) N (lN (kk (tw b n p)))) (d + 3) N (nI (2 ^ t))) (d + 4) N (nI (nc t))) d 11 (nI (N + 1))) := (Fx.stJ (Or.inr (Or.inl rfl))).trans ((Fx.stI (Or.inr (Or.inr (Or.inl rfl)))).trans ((Fx.stI (Or.inr (Or.inr (Or.inr rfl)))).trans (Fx.stI (Or.inl rfl))))
          have gd : ∀ j, ¬ j = 11 → gI (stI (stI (stI (stJ μ1 (d + 2) N (lN (kk (tw b n p)))) (d + 3) N (nI (2 ^ t))) (d + 4) N (nI (nc t))) d 11 (nI (N + 1))) d j = gI μ1 d j := fun j hj => by
            rw [q_iI, q_un (by omega), q_iI, q_un (by omega), q_iI, q_un (by omega)]; rfl
          refine ⟨stI (stI (stI (stJ μ1 (d + 2) N (lN (kk (tw b n p)))) (d + 3) N (nI (2 ^ t))) (d + 4) N (nI (nc t))) d 11 (nI (N + 1)), ?_, ⟨c1.1.f f2 (fun a ha => ha) (gd 2 (by decide)), (gd 13 (by decide)).trans q1, (gd 3 (by decide)).trans q2, q3, q4, (gd 4 (by decide)).trans q5, q6, ?_, ?_, ?_, q10, ⟨?_, by omega, by omega, by omega, ?_, ?_⟩, q12.add hw hx, hcu⟩, c2.trans ⟨f2.mono (fun a ha => by omega), gd 1 (by decide)⟩⟩
          · have r8 := c1.1.r8
            have r9 := c1.1.r9
            have r10 := c1.1.r10
            have k2 := c1.1.k2
            have k3 := c1.1.k3
            have k4 := c1.1.k4
            have l2 := c1.1.l2
            have l3 := c1.1.l3
            have l4 := c1.1.l4
            clear hB hG tt c1 c2 a1 a2 q7 q8 q9 q10 q12 s5 s6 hx hno f2 gd hcu
            simp (disch := first | assumption | omega) only [q_bl, q_baT, q_bi, q_ba, q_pr, q_ob, q_iT, q_iN, q_it, q_if, q_of, nI_add, pk_mul, pk_sub, nI_leI, nI_ltI, nI_eq, nI_clamp, nI_lt0, nI_eqm, m1_eq, true_or, or_true, not_false_eq_true, m1_lt, m1_nlt, m1_le, m1_nle, b01, b011, q_em, q_m1, n_0, n_1, n_2, n_3, n_4, n_5, n_6, n_7, n_8, n_9, n_10, n_11, n_12, n_14, n_15, n_16, n_20, n_24, n_25, n_32, n_36, n_40, n_41, n_42, n_43, n_45, n_46, n_48, n_57, n_59, n_60, n_73, n_76, n_97, n_99, n_100, n_106, n_109, n_120, n_122, n_136, n_160, n_176, n_200, n_255, n_800, n_1000, n_1001, n_1002, n_1003, n_1006, n_1012, n_1018, n_1019, n_1020, n_1100, n_1140, n_4800, n_4920, n_5940, n_6740, n_20220, q_kI, q_lI, q_nI, q_rI, q_iI, q_jI, q_dI, q_kJ, q_lJ, q_nJ, q_rJ, q_iJ, q_jJ, q_dJ, q_kC, q_lC, q_nC, q_rC, q_jC, q_dC, q_kF, q_lF, q_nF, q_rF, q_jF, q_dF, q_us, q_un, q_ua, F_X5_takeNewName, k0, e1, k1, hrw, g7, ex, s1, r8, r9, r10, k2, k3, k4, l2, l3, l4]
          · intro k hk8; unfold RT; rw [f2.I (by omega), f2.I (by omega)]; exact q7 k hk8
          · intro l l1 l2; rw [f2.I (by omega)]; exact q8 l l1 l2
          · unfold RD; rw [f2.I (by omega), f2.I (by omega)]; exact q9
          · rw [q_iI, q_us, hsum]
          · intro j hj
            rw [hsum] at hj
            by_cases hjN : j = N
            · subst hjN
              refine ⟨t, nc t, ht, by rw [ncu_s]; omega, ?_, ?_, ?_⟩
              · rw [wnu_s, q_jI, q_jI, q_jI, q_jJ, q_us]
              · rw [q_iI, q_un (by omega), q_iI, q_un (by omega), q_iI, q_us]
              · rw [q_iI, q_un (by omega), q_iI, q_us]
            · obtain ⟨u, r, b1, b2, b3, b4, b5⟩ := s5 j (by omega)
              have hne : ¬ (u = t ∧ r = nc t) := fun e => by rw [e.1, e.2] at b2; omega
              have hlt2 : r < ncu nc t u := by
                by_cases hut : u = t
                · subst hut; rw [ncu_s]; omega
                · rw [ncu_n hut]; exact b2
              refine ⟨u, r, b1, hlt2, ?_, ?_, ?_⟩
              · rw [wnu_n hne, q_jI, q_jI, q_jI, q_jJ, q_un (by omega)]; exact b3
              · rw [q_iI, q_un (by omega), q_iI, q_un (by omega), q_iI, q_un (by omega)]; exact b4
              · rw [q_iI, q_un (by omega), q_iI, q_un (by omega), q_iI, q_un (by omega)]; exact b5
          · intro u r hu hr
            rw [hsum]
            by_cases hut : u = t ∧ r = nc t
            · obtain ⟨rfl, rfl⟩ := hut
              exact ⟨N, by omega, by rw [wnu_s, q_jI, q_jI, q_jI, q_jJ, q_us]⟩
            · have hr2 : r < nc u := by
                by_cases hu2 : u = t
                · subst hu2; rw [ncu_s] at hr
                  have : ¬ r = nc u := fun e => hut ⟨rfl, e⟩
                  omega
                · rw [ncu_n hu2] at hr; exact hr
              obtain ⟨j, b1, b2⟩ := s6 u r hu hr2
              exact ⟨j, by omega, by rw [wnu_n hut, q_jI, q_jI, q_jI, q_jJ, q_un (by omega)]; exact b2⟩
        · have hno : ¬ (lkf (wn 0) (tw b n p) (nc 0) = none ∧ lkf (wn 1) (tw b n p) (nc 1) = none ∧ lkf (wn 2) (tw b n p) (nc 2) = none) := fun ⟨n0, n1, n2⟩ => by
            match t0, x2 with
            | 0, _ => exact lkf_n _ n0 r0 x3 x4
            | 1, _ => exact lkf_n _ n1 r0 x3 x4
            | 2, _ => exact lkf_n _ n2 r0 x3 x4
            | t + 3, h => omega
          rw [if_neg hno]
          obtain ⟨c3, c4⟩ := ce_of (k := 4) (lo := lo) hB hG.2.2.2.1 tt (by decide) (by decide)
          refine ⟨_, ?_, c3, c4⟩
          have f1 := x5_fail (v := nI 4) k1 o1
          rw [t4] at f1
          have hj : ¬ nI j = -nI 1 := by rw [nI_eqm (by omega)]; exact id
          clear hB hG tt c1 c2 c3 c4 a1 a2 q7 q8 q9 q10 q11 q12 q13 hno x2 x3 x4 x5 x6
          simp (disch := first | assumption | omega) only [q_bl, q_baT, q_bi, q_ba, q_pr, q_ob, q_iT, q_iN, q_it, q_if, q_of, nI_add, pk_mul, pk_sub, nI_leI, nI_ltI, nI_eq, nI_clamp, nI_lt0, nI_eqm, m1_eq, true_or, or_true, not_false_eq_true, m1_lt, m1_nlt, m1_le, m1_nle, b01, b011, q_em, q_m1, n_0, n_1, n_2, n_3, n_4, n_5, n_6, n_7, n_8, n_9, n_10, n_11, n_12, n_14, n_15, n_16, n_20, n_24, n_25, n_32, n_36, n_40, n_41, n_42, n_43, n_45, n_46, n_48, n_57, n_59, n_60, n_73, n_76, n_97, n_99, n_100, n_106, n_109, n_120, n_122, n_136, n_160, n_176, n_200, n_255, n_800, n_1000, n_1001, n_1002, n_1003, n_1006, n_1012, n_1018, n_1019, n_1020, n_1100, n_1140, n_4800, n_4920, n_5940, n_6740, n_20220, F_X5_takeNewName, k0, e1, k1, hrw, g7, ex, hj, f1]
      · rw [if_neg hz]
        obtain ⟨c3, c4⟩ := ce_of (k := 2) (lo := lo) hB hG.2.2.2.1 tt (by decide) (by decide)
        refine ⟨_, ?_, c3, c4⟩
        have f1 := x5_fail (v := nI 2) k1 o1
        rw [t4] at f1
        clear hB hG tt c1 c2 c3 c4 a1 a2
        simp (disch := first | assumption | omega) only [q_bl, q_baT, q_bi, q_ba, q_pr, q_ob, q_iT, q_iN, q_it, q_if, q_of, nI_add, pk_mul, pk_sub, nI_leI, nI_ltI, nI_eq, nI_clamp, nI_lt0, nI_eqm, m1_eq, true_or, or_true, not_false_eq_true, m1_lt, m1_nlt, m1_le, m1_nle, b01, b011, q_em, q_m1, n_0, n_1, n_2, n_3, n_4, n_5, n_6, n_7, n_8, n_9, n_10, n_11, n_12, n_14, n_15, n_16, n_20, n_24, n_25, n_32, n_36, n_40, n_41, n_42, n_43, n_45, n_46, n_48, n_57, n_59, n_60, n_73, n_76, n_97, n_99, n_100, n_106, n_109, n_120, n_122, n_136, n_160, n_176, n_200, n_255, n_800, n_1000, n_1001, n_1002, n_1003, n_1006, n_1012, n_1018, n_1019, n_1020, n_1100, n_1140, n_4800, n_4920, n_5940, n_6740, n_20220, F_X5_takeNewName, k0, e1, k1, hrw, hz, f1]
    · rw [if_neg hk]
      obtain ⟨c1, c2⟩ := ce_of (lo := lo) hB hG.2.2.2.1 tt ek_r.1 ek_r.2
      have e1 := a2 hk
      refine ⟨_, ?_, c1, c2⟩
      clear hB hG tt c1 c2 a1 a2
      simp (disch := first | assumption | omega) only [q_bl, q_baT, q_bi, q_ba, q_pr, q_ob, q_iT, q_iN, q_it, q_if, q_of, nI_add, pk_mul, pk_sub, nI_leI, nI_ltI, nI_eq, nI_clamp, nI_lt0, nI_eqm, m1_eq, true_or, or_true, not_false_eq_true, m1_lt, m1_nlt, m1_le, m1_nle, b01, b011, q_em, q_m1, n_0, n_1, n_2, n_3, n_4, n_5, n_6, n_7, n_8, n_9, n_10, n_11, n_12, n_14, n_15, n_16, n_20, n_24, n_25, n_32, n_36, n_40, n_41, n_42, n_43, n_45, n_46, n_48, n_57, n_59, n_60, n_73, n_76, n_97, n_99, n_100, n_106, n_109, n_120, n_122, n_136, n_160, n_176, n_200, n_255, n_800, n_1000, n_1001, n_1002, n_1003, n_1006, n_1012, n_1018, n_1019, n_1020, n_1100, n_1140, n_4800, n_4920, n_5940, n_6740, n_20220, F_X5_takeNewName, k0, e1]
theorem CR.d12 {v : Int32} {g : GST} (h : CR μ d b n lo g) : CR (stI μ d 12 v) d b n lo g ∧ FR d μ (stI μ d 12 v) := by
  obtain ⟨hB, hG⟩ := h
  have f : Fx (fun a => a = d) μ (stI μ d 12 v) := Fx.stI rfl
  have e : ∀ j, ¬ j = 12 → gI (stI μ d 12 v) d j = gI μ d j := fun j hj => by rw [q_iI, q_un (by omega)]
  refine ⟨⟨hB.dd f (e 2 (by decide)), ?_⟩, FR.dd f (e 1 (by decide))⟩
  match g, hG with
  | .inl k, hG => exact ⟨(e 13 (by decide)).trans hG.1, hG.2.1, hG.2.2.1, (e 14 (by decide)).trans hG.2.2.2.1, hG.2.2.2.2⟩
  | .inr (p, ls, A, nc, wn), hG =>
    obtain ⟨o1, o2, o3, o4, o5, o6, o7⟩ := hG
    exact ⟨(e 13 (by decide)).trans o1, (e 3 (by decide)).trans o2, o3, o4, (e 4 (by decide)).trans o5, o6, o7.dd f (e 11 (by decide))⟩
theorem kd_and : ∀ t, t < 3 → ∀ u, u < 3 → (nI (2 ^ u) &&& nI (2 ^ t) = nI 0 ↔ ¬ u = t) := by decide +kernel
theorem kd_5 : ∀ u, u < 3 → (nI (2 ^ u) &&& nI 5 = nI 0 ↔ u = 1) := by decide +kernel
/-- a name that stands: the general step -/
theorem gnam {kn : Nat} (hB : CB μ d b n) (hG : COk μ d n lo p ls A nc wn) : ∃ μ1, NT μ μ1 d b n p ∧
    (¬ tk b n p = 1 → F_X5_takeName d (nI kn) μ = some (nI 0, stI (stI μ1 d 13 (nI (ek (tk b n p)))) d 14 (nI (ts b n p)))) ∧
    (tk b n p = 1 → ¬ kwr (tw b n p) = 0 → F_X5_takeName d (nI kn) μ = some (nI 0, stI (stI μ1 d 13 (nI 2)) d 14 (nI (ts b n p)))) ∧
    (tk b n p = 1 → kwr (tw b n p) = 0 → (∀ t r, t < 3 → r < nc t → wn t r = tw b n p → nI (2 ^ t) &&& nI kn = nI 0) → F_X5_takeName d (nI kn) μ = some (nI 0, stI (stI μ1 d 13 (nI 4)) d 14 (nI (ts b n p)))) ∧
    (∀ t r, tk b n p = 1 → kwr (tw b n p) = 0 → t < 3 → r < nc t → wn t r = tw b n p → ¬ nI (2 ^ t) &&& nI kn = nI 0 → F_X5_takeName d (nI kn) μ = some (nI r, stI μ1 d 12 (nI (2 ^ t)))) := by
  have k0 := hB.kd
  obtain ⟨μ1, tt, a1, a2⟩ := x5_takeO (kd := 1) (by decide) (by decide) hB hG
  obtain ⟨c1, c2⟩ := co_of hB hG tt
  have k1 := c1.1.kd
  have o1 := c1.2.1
  have t4 := tt.2.1
  have hrw := x5_resw (μ := μ1) k1 tt.2.2.1 tt.2.2.2.2.1
  have hfin : ∀ k : Nat, F_X5_fail d (nI k) μ1 = some (stI (stI μ1 d 13 (nI k)) d 14 (nI (ts b n p))) := fun k => by
    have f1 := x5_fail (v := nI k) k1 o1
    rw [t4] at f1; exact f1
  obtain ⟨q1, q2, q3, q4, q5, q6, q7, q8, q9, q10, q11, q12, q13⟩ := c1.2
  have r9 := c1.1.r9
  have r10 := c1.1.r10
  have k3 := c1.1.k3
  have k4 := c1.1.k4
  have l3 := c1.1.l3
  have l4 := c1.1.l4
  refine ⟨μ1, tt, fun hk => ?_, fun hk hz => ?_, fun hk hz hno => ?_, fun t r hk hz ht hr hwe hkn => ?_⟩
  · have e1 := a2 hk
    clear hB hG tt c1 c2 a1 a2 q7 q8 q9 q10 q11 q12 q13
    simp (disch := first | assumption | omega) only [q_bl, q_baT, q_bi, q_ba, q_pr, q_ob, q_iT, q_iN, q_it, q_if, q_of, nI_add, pk_mul, pk_sub, nI_leI, nI_ltI, nI_eq, nI_clamp, nI_lt0, nI_eqm, m1_eq, true_or, or_true, not_false_eq_true, m1_lt, m1_nlt, m1_le, m1_nle, b01, b011, q_em, q_m1, n_0, n_1, n_2, n_3, n_4, n_5, n_6, n_7, n_8, n_9, n_10, n_11, n_12, n_14, n_15, n_16, n_20, n_24, n_25, n_32, n_36, n_40, n_41, n_42, n_43, n_45, n_46, n_48, n_57, n_59, n_60, n_73, n_76, n_97, n_99, n_100, n_106, n_109, n_120, n_122, n_136, n_160, n_176, n_200, n_255, n_800, n_1000, n_1001, n_1002, n_1003, n_1006, n_1012, n_1018, n_1019, n_1020, n_1100, n_1140, n_4800, n_4920, n_5940, n_6740, n_20220, F_X5_takeName, k0, e1]
  · have e1 := a1 hk
    have g7 := tt.2.2.2.2.1 hk
    obtain ⟨x, ex, -⟩ := fnd c1.1 q11 q12 (tw_lw hk)
    unfold trw at hrw
    rw [if_pos hk] at hrw
    have f1 := hfin 2
    clear hB hG tt c1 c2 a1 a2 q7 q8 q9 q10 q11 q12 q13 hfin
    simp (disch := first | assumption | omega) only [q_bl, q_baT, q_bi, q_ba, q_pr, q_ob, q_iT, q_iN, q_it, q_if, q_of, nI_add, pk_mul, pk_sub, nI_leI, nI_ltI, nI_eq, nI_clamp, nI_lt0, nI_eqm, m1_eq, true_or, or_true, not_false_eq_true, m1_lt, m1_nlt, m1_le, m1_nle, b01, b011, q_em, q_m1, n_0, n_1, n_2, n_3, n_4, n_5, n_6, n_7, n_8, n_9, n_10, n_11, n_12, n_14, n_15, n_16, n_20, n_24, n_25, n_32, n_36, n_40, n_41, n_42, n_43, n_45, n_46, n_48, n_57, n_59, n_60, n_73, n_76, n_97, n_99, n_100, n_106, n_109, n_120, n_122, n_136, n_160, n_176, n_200, n_255, n_800, n_1000, n_1001, n_1002, n_1003, n_1006, n_1012, n_1018, n_1019, n_1020, n_1100, n_1140, n_4800, n_4920, n_5940, n_6740, n_20220, F_X5_takeName, k0, e1, k1, hrw, g7, ex, hz, f1]
  · have e1 := a1 hk
    have g7 := tt.2.2.2.2.1 hk
    unfold trw at hrw
    rw [if_pos hk, hz] at hrw
    have f1 := hfin 4
    obtain ⟨x, ex, hx⟩ := fnd c1.1 q11 q12 (tw_lw hk)
    rcases hx with ⟨rfl, hx⟩ | ⟨j, t0, r0, x1, rfl, x2, x3, x4, x5, x6⟩
    · have m0 : -nI 1 < nI 0 := by decide +kernel
      clear hB hG tt c1 c2 a1 a2 q7 q8 q9 q10 q11 q12 q13 hfin hno hx
      simp (disch := first | assumption | omega) only [q_bl, q_baT, q_bi, q_ba, q_pr, q_ob, q_iT, q_iN, q_it, q_if, q_of, nI_add, pk_mul, pk_sub, nI_leI, nI_ltI, nI_eq, nI_clamp, nI_lt0, nI_eqm, m1_eq, true_or, or_true, not_false_eq_true, m1_lt, m1_nlt, m1_le, m1_nle, b01, b011, q_em, q_m1, n_0, n_1, n_2, n_3, n_4, n_5, n_6, n_7, n_8, n_9, n_10, n_11, n_12, n_14, n_15, n_16, n_20, n_24, n_25, n_32, n_36, n_40, n_41, n_42, n_43, n_45, n_46, n_48, n_57, n_59, n_60, n_73, n_76, n_97, n_99, n_100, n_106, n_109, n_120, n_122, n_136, n_160, n_176, n_200, n_255, n_800, n_1000, n_1001, n_1002, n_1003, n_1006, n_1012, n_1018, n_1019, n_1020, n_1100, n_1140, n_4800, n_4920, n_5940, n_6740, n_20220, F_X5_takeName, B_X5_takeName_54, k0, e1, k1, hrw, g7, ex, f1]
    · have hz2 := hno t0 r0 x2 x3 x4
      clear hB hG tt c1 c2 a1 a2 q7 q8 q9 q10 q11 q12 q13 hfin hno x2 x3 x4
      simp (disch := first | assumption | omega) only [q_bl, q_baT, q_bi, q_ba, q_pr, q_ob, q_iT, q_iN, q_it, q_if, q_of, nI_add, pk_mul, pk_sub, nI_leI, nI_ltI, nI_eq, nI_clamp, nI_lt0, nI_eqm, m1_eq, true_or, or_true, not_false_eq_true, m1_lt, m1_nlt, m1_le, m1_nle, b01, b011, q_em, q_m1, n_0, n_1, n_2, n_3, n_4, n_5, n_6, n_7, n_8, n_9, n_10, n_11, n_12, n_14, n_15, n_16, n_20, n_24, n_25, n_32, n_36, n_40, n_41, n_42, n_43, n_45, n_46, n_48, n_57, n_59, n_60, n_73, n_76, n_97, n_99, n_100, n_106, n_109, n_120, n_122, n_136, n_160, n_176, n_200, n_255, n_800, n_1000, n_1001, n_1002, n_1003, n_1006, n_1012, n_1018, n_1019, n_1020, n_1100, n_1140, n_4800, n_4920, n_5940, n_6740, n_20220, F_X5_takeName, B_X5_takeName_54, k0, e1, k1, hrw, g7, ex, f1, r9, k3, l3, x5, hz2]
  · have e1 := a1 hk
    have g7 := tt.2.2.2.2.1 hk
    unfold trw at hrw
    rw [if_pos hk, hz] at hrw
    obtain ⟨x, ex, hx⟩ := fnd c1.1 q11 q12 (tw_lw hk)
    rcases hx with ⟨rfl, hx⟩ | ⟨j, t0, r0, x1, rfl, x2, x3, x4, x5, x6⟩
    · exact absurd hwe (hx t r ht hr)
    · obtain ⟨rfl, rfl⟩ := q12.2 t r t0 r0 ht x2 hr x3 (hwe.trans x4.symm)
      clear hB hG tt c1 c2 a1 a2 q7 q8 q9 q10 q11 q12 q13 hfin x2 x3 x4 hr ht hwe
      simp (disch := first | assumption | omega) only [q_bl, q_baT, q_bi, q_ba, q_pr, q_ob, q_iT, q_iN, q_it, q_if, q_of, nI_add, pk_mul, pk_sub, nI_leI, nI_ltI, nI_eq, nI_clamp, nI_lt0, nI_eqm, m1_eq, true_or, or_true, not_false_eq_true, m1_lt, m1_nlt, m1_le, m1_nle, b01, b011, q_em, q_m1, n_0, n_1, n_2, n_3, n_4, n_5, n_6, n_7, n_8, n_9, n_10, n_11, n_12, n_14, n_15, n_16, n_20, n_24, n_25, n_32, n_36, n_40, n_41, n_42, n_43, n_45, n_46, n_48, n_57, n_59, n_60, n_73, n_76, n_97, n_99, n_100, n_106, n_109, n_120, n_122, n_136, n_160, n_176, n_200, n_255, n_800, n_1000, n_1001, n_1002, n_1003, n_1006, n_1012, n_1018, n_1019, n_1020, n_1100, n_1140, n_4800, n_4920, n_5940, n_6740, n_20220, q_kI, q_lI, q_nI, q_rI, q_iI, q_jI, q_dI, q_kJ, q_lJ, q_nJ, q_rJ, q_iJ, q_jJ, q_dJ, q_kC, q_lC, q_nC, q_rC, q_jC, q_dC, q_kF, q_lF, q_nF, q_rF, q_jF, q_dF, q_us, q_un, q_ua, F_X5_takeName, k0, e1, k1, hrw, g7, ex, r9, k3, l3, r10, k4, l4, x5, x6, hkn]
theorem gname {t : Nat} {g : GST} (ht : t < 3) (h : CR μ d b n lo g) : ∃ μ', F_X5_takeName d (nI (2 ^ t)) μ = some (nI (g_name b n t g).1, μ') ∧ CR μ' d b n lo (g_name b n t g).2 ∧ FR d μ μ' := by
  obtain ⟨hB, hG⟩ := h
  match g, hG with
  | .inl e, hG =>
    have e1 := x5_takeE (v := nI 1) hB hG
    have k0 := hB.kd
    refine ⟨μ, ?_, ⟨hB, hG⟩, FR.same⟩
    show _ = some (nI 0, μ)
    clear hB hG
    simp (disch := first | assumption | omega) only [q_bl, q_baT, q_bi, q_ba, q_pr, q_ob, q_iT, q_iN, q_it, q_if, q_of, nI_add, pk_mul, pk_sub, nI_leI, nI_ltI, nI_eq, nI_clamp, nI_lt0, nI_eqm, m1_eq, true_or, or_true, not_false_eq_true, m1_lt, m1_nlt, m1_le, m1_nle, b01, b011, q_em, q_m1, n_0, n_1, n_2, n_3, n_4, n_5, n_6, n_7, n_8, n_9, n_10, n_11, n_12, n_14, n_15, n_16, n_20, n_24, n_25, n_32, n_36, n_40, n_41, n_42, n_43, n_45, n_46, n_48, n_57, n_59, n_60, n_73, n_76, n_97, n_99, n_100, n_106, n_109, n_120, n_122, n_136, n_160, n_176, n_200, n_255, n_800, n_1000, n_1001, n_1002, n_1003, n_1006, n_1012, n_1018, n_1019, n_1020, n_1100, n_1140, n_4800, n_4920, n_5940, n_6740, n_20220, F_X5_takeName, k0, e1]
  | .inr (p, ls, A, nc, wn), hG =>
    obtain ⟨μ1, tt, a1, a2, a3, a4⟩ := gnam (kn := 2 ^ t) hB hG
    have hW := hG.2.2.2.2.2.2.2.2.2.2.2.1
    obtain ⟨c1, c2⟩ := co_of hB hG tt
    have eg : g_name b n t (.inr (p, ls, A, nc, wn)) = if tk b n p = 1 then (if kwr (tw b n p) = 0 then (match lkf (wn t) (tw b n p) (nc t) with
      | some r => (r, .inr (te b n p, ts b n p, A, nc, wn))
      | none => (0, .inl (4, ts b n p))) else (0, .inl (2, ts b n p))) else (0, .inl (ek (tk b n p), ts b n p)) := rfl
    rw [eg]
    clear eg
    by_cases hk : tk b n p = 1
    · rw [if_pos hk]
      by_cases hz : kwr (tw b n p) = 0
      · rw [if_pos hz]
        cases hl : lkf (wn t) (tw b n p) (nc t) with
        | none =>
          obtain ⟨c3, c4⟩ := ce_of (k := 4) (lo := lo) hB hG.2.2.2.1 tt (by decide) (by decide)
          exact ⟨_, a3 hk hz (fun u r hu hr hwe => (kd_and t ht u hu).mpr (fun e => by subst e; exact lkf_n _ hl r hr hwe)), c3, c4⟩
        | some r =>
          obtain ⟨l1, l2⟩ := lkf_s _ _ hl
          obtain ⟨c3, c4⟩ := c1.d12 (v := nI (2 ^ t))
          exact ⟨_, a4 t r hk hz ht l1 l2 (fun e => (kd_and t ht t ht).mp e rfl), c3, c2.trans c4⟩
      · rw [if_neg hz]
        obtain ⟨c3, c4⟩ := ce_of (k := 2) (lo := lo) hB hG.2.2.2.1 tt (by decide) (by decide)
        exact ⟨_, a2 hk hz, c3, c4⟩
    · rw [if_neg hk]
      obtain ⟨c3, c4⟩ := ce_of (lo := lo) hB hG.2.2.2.1 tt ek_r.1 ek_r.2
      exact ⟨_, a1 hk, c3, c4⟩
theorem gnameP {g : GST} (h : CR μ d b n lo g) : ∃ μ', F_X5_takeName d (nI 5) μ = some (nI (g_nameP b n g).2.1, μ') ∧ CR μ' d b n lo (g_nameP b n g).2.2 ∧ FR d μ μ' ∧ (∀ o, (g_nameP b n g).2.2 = .inr o → gI μ' d 12 = nI (2 ^ (g_nameP b n g).1)) := by
  obtain ⟨hB, hG⟩ := h
  match g, hG with
  | .inl e, hG =>
    have e1 := x5_takeE (v := nI 1) hB hG
    have k0 := hB.kd
    refine ⟨μ, ?_, ⟨hB, hG⟩, FR.same, fun o h => by cases h⟩
    show _ = some (nI 0, μ)
    clear hB hG
    simp (disch := first | assumption | omega) only [q_bl, q_baT, q_bi, q_ba, q_pr, q_ob, q_iT, q_iN, q_it, q_if, q_of, nI_add, pk_mul, pk_sub, nI_leI, nI_ltI, nI_eq, nI_clamp, nI_lt0, nI_eqm, m1_eq, true_or, or_true, not_false_eq_true, m1_lt, m1_nlt, m1_le, m1_nle, b01, b011, q_em, q_m1, n_0, n_1, n_2, n_3, n_4, n_5, n_6, n_7, n_8, n_9, n_10, n_11, n_12, n_14, n_15, n_16, n_20, n_24, n_25, n_32, n_36, n_40, n_41, n_42, n_43, n_45, n_46, n_48, n_57, n_59, n_60, n_73, n_76, n_97, n_99, n_100, n_106, n_109, n_120, n_122, n_136, n_160, n_176, n_200, n_255, n_800, n_1000, n_1001, n_1002, n_1003, n_1006, n_1012, n_1018, n_1019, n_1020, n_1100, n_1140, n_4800, n_4920, n_5940, n_6740, n_20220, F_X5_takeName, k0, e1]
  | .inr (p, ls, A, nc, wn), hG =>
    obtain ⟨μ1, tt, a1, a2, a3, a4⟩ := gnam (kn := 5) hB hG
    obtain ⟨c1, c2⟩ := co_of hB hG tt
    have eg : g_nameP b n (.inr (p, ls, A, nc, wn)) = if tk b n p = 1 then (if kwr (tw b n p) = 0 then (match lkf (wn 0) (tw b n p) (nc 0), lkf (wn 2) (tw b n p) (nc 2) with
      | some r, _ => (0, r, .inr (te b n p, ts b n p, A, nc, wn))
      | none, some r => (2, r, .inr (te b n p, ts b n p, A, nc, wn))
      | none, none => (0, 0, .inl (4, ts b n p))) else (0, 0, .inl (2, ts b n p))) else (0, 0, .inl (ek (tk b n p), ts b n p)) := rfl
    rw [eg]
    clear eg
    by_cases hk : tk b n p = 1
    · rw [if_pos hk]
      by_cases hz : kwr (tw b n p) = 0
      · rw [if_pos hz]
        cases hl : lkf (wn 0) (tw b n p) (nc 0) with
        | some r =>
          obtain ⟨l1, l2⟩ := lkf_s _ _ hl
          obtain ⟨c3, c4⟩ := c1.d12 (v := nI (2 ^ 0))
          exact ⟨_, a4 0 r hk hz (by decide) l1 l2 (fun e => absurd ((kd_5 0 (by decide)).mp e) (by decide)), c3, c2.trans c4, fun o _ => by rw [q_iI, q_us]⟩
        | none =>
          cases hl2 : lkf (wn 2) (tw b n p) (nc 2) with
          | some r =>
            obtain ⟨l1, l2⟩ := lkf_s _ _ hl2
            obtain ⟨c3, c4⟩ := c1.d12 (v := nI (2 ^ 2))
            exact ⟨_, a4 2 r hk hz (by decide) l1 l2 (fun e => absurd ((kd_5 2 (by decide)).mp e) (by decide)), c3, c2.trans c4, fun o _ => by rw [q_iI, q_us]⟩
          | none =>
            obtain ⟨c3, c4⟩ := ce_of (k := 4) (lo := lo) hB hG.2.2.2.1 tt (by decide) (by decide)
            refine ⟨_, a3 hk hz (fun u r hu hr hwe => (kd_5 u hu).mpr ?_), c3, c4, fun o h => by cases h⟩
            match u, hu with
            | 0, _ => exact absurd hwe (lkf_n _ hl r hr)
            | 1, _ => rfl
            | 2, _ => exact absurd hwe (lkf_n _ hl2 r hr)
            | u + 3, h => omega
      · rw [if_neg hz]
        obtain ⟨c3, c4⟩ := ce_of (k := 2) (lo := lo) hB hG.2.2.2.1 tt (by decide) (by decide)
        exact ⟨_, a2 hk hz, c3, c4, fun o h => by cases h⟩
    · rw [if_neg hk]
      obtain ⟨c3, c4⟩ := ce_of (lo := lo) hB hG.2.2.2.1 tt ek_r.1 ek_r.2
      exact ⟨_, a1 hk, c3, c4, fun o h => by cases h⟩
theorem gmode {g : GST} (h : CR μ d b n lo g) : ∃ μ', F_X5_takeMode d μ = some (nI (g_mode b n g).1, μ') ∧ CR μ' d b n lo (g_mode b n g).2 ∧ FR d μ μ' := by
  obtain ⟨hB, hG⟩ := h
  have k0 := hB.kd
  match g, hG with
  | .inl e, hG =>
    have e1 := x5_takeE (v := nI 1) hB hG
    have f1 := x5_failE (v := nI 2) k0 (CE.ne hG)
    refine ⟨μ, ?_, ⟨hB, hG⟩, FR.same⟩
    show _ = some (nI 0, μ)
    clear hB hG
    simp (disch := first | assumption | omega) only [q_bl, q_baT, q_bi, q_ba, q_pr, q_ob, q_iT, q_iN, q_it, q_if, q_of, nI_add, pk_mul, pk_sub, nI_leI, nI_ltI, nI_eq, nI_clamp, nI_lt0, nI_eqm, m1_eq, true_or, or_true, not_false_eq_true, m1_lt, m1_nlt, m1_le, m1_nle, b01, b011, q_em, q_m1, n_0, n_1, n_2, n_3, n_4, n_5, n_6, n_7, n_8, n_9, n_10, n_11, n_12, n_14, n_15, n_16, n_20, n_24, n_25, n_32, n_36, n_40, n_41, n_42, n_43, n_45, n_46, n_48, n_57, n_59, n_60, n_73, n_76, n_97, n_99, n_100, n_106, n_109, n_120, n_122, n_136, n_160, n_176, n_200, n_255, n_800, n_1000, n_1001, n_1002, n_1003, n_1006, n_1012, n_1018, n_1019, n_1020, n_1100, n_1140, n_4800, n_4920, n_5940, n_6740, n_20220, F_X5_takeMode, B_X5_takeMode_16, k0, e1, f1]
  | .inr (p, ls, A, nc, wn), hG =>
    obtain ⟨μ1, tt, a1, a2⟩ := x5_takeO (kd := 1) (by decide) (by decide) hB hG
    have eg : g_mode b n (.inr (p, ls, A, nc, wn)) = if tk b n p = 1 then (if kwr (tw b n p) = 14 then (1, .inr (te b n p, ts b n p, A, nc, wn)) else if kwr (tw b n p) = 15 then (2, .inr (te b n p, ts b n p, A, nc, wn)) else if kwr (tw b n p) = 13 then (0, .inr (te b n p, ts b n p, A, nc, wn)) else (0, .inl (2, ts b n p))) else (0, .inl (ek (tk b n p), ts b n p)) := rfl
    rw [eg]
    clear eg
    by_cases hk : tk b n p = 1
    · have e1 := a1 hk
      obtain ⟨c1, c2⟩ := co_of hB hG tt
      have k1 := c1.1.kd
      have o1 := c1.2.1
      have t4 := tt.2.1
      have hrw := x5_resw (μ := μ1) k1 tt.2.2.1 tt.2.2.2.2.1
      unfold trw at hrw
      rw [if_pos hk] at hrw
      rw [if_pos hk]
      have hr := kwr_r (tw b n p)
      generalize kwr (tw b n p) = w at *
      by_cases h14 : w = 14
      · rw [if_pos h14]; subst h14
        refine ⟨μ1, ?_, c1, c2⟩
        clear hB hG tt c1 c2 a1 a2
        simp (disch := first | assumption | omega) only [q_bl, q_baT, q_bi, q_ba, q_pr, q_ob, q_iT, q_iN, q_it, q_if, q_of, nI_add, pk_mul, pk_sub, nI_leI, nI_ltI, nI_eq, nI_clamp, nI_lt0, nI_eqm, m1_eq, true_or, or_true, not_false_eq_true, m1_lt, m1_nlt, m1_le, m1_nle, b01, b011, q_em, q_m1, n_0, n_1, n_2, n_3, n_4, n_5, n_6, n_7, n_8, n_9, n_10, n_11, n_12, n_14, n_15, n_16, n_20, n_24, n_25, n_32, n_36, n_40, n_41, n_42, n_43, n_45, n_46, n_48, n_57, n_59, n_60, n_73, n_76, n_97, n_99, n_100, n_106, n_109, n_120, n_122, n_136, n_160, n_176, n_200, n_255, n_800, n_1000, n_1001, n_1002, n_1003, n_1006, n_1012, n_1018, n_1019, n_1020, n_1100, n_1140, n_4800, n_4920, n_5940, n_6740, n_20220, F_X5_takeMode, B_X5_takeMode_16, k0, e1, k1, hrw]
      · rw [if_neg h14]
        by_cases h15 : w = 15
        · rw [if_pos h15]; subst h15
          refine ⟨μ1, ?_, c1, c2⟩
          clear hB hG tt c1 c2 a1 a2
          simp (disch := first | assumption | omega) only [q_bl, q_baT, q_bi, q_ba, q_pr, q_ob, q_iT, q_iN, q_it, q_if, q_of, nI_add, pk_mul, pk_sub, nI_leI, nI_ltI, nI_eq, nI_clamp, nI_lt0, nI_eqm, m1_eq, true_or, or_true, not_false_eq_true, m1_lt, m1_nlt, m1_le, m1_nle, b01, b011, q_em, q_m1, n_0, n_1, n_2, n_3, n_4, n_5, n_6, n_7, n_8, n_9, n_10, n_11, n_12, n_14, n_15, n_16, n_20, n_24, n_25, n_32, n_36, n_40, n_41, n_42, n_43, n_45, n_46, n_48, n_57, n_59, n_60, n_73, n_76, n_97, n_99, n_100, n_106, n_109, n_120, n_122, n_136, n_160, n_176, n_200, n_255, n_800, n_1000, n_1001, n_1002, n_1003, n_1006, n_1012, n_1018, n_1019, n_1020, n_1100, n_1140, n_4800, n_4920, n_5940, n_6740, n_20220, F_X5_takeMode, B_X5_takeMode_16, k0, e1, k1, hrw]
        · rw [if_neg h15]
          by_cases h13 : w = 13
          · rw [if_pos h13]; subst h13
            refine ⟨μ1, ?_, c1, c2⟩
            clear hB hG tt c1 c2 a1 a2
            simp (disch := first | assumption | omega) only [q_bl, q_baT, q_bi, q_ba, q_pr, q_ob, q_iT, q_iN, q_it, q_if, q_of, nI_add, pk_mul, pk_sub, nI_leI, nI_ltI, nI_eq, nI_clamp, nI_lt0, nI_eqm, m1_eq, true_or, or_true, not_false_eq_true, m1_lt, m1_nlt, m1_le, m1_nle, b01, b011, q_em, q_m1, n_0, n_1, n_2, n_3, n_4, n_5, n_6, n_7, n_8, n_9, n_10, n_11, n_12, n_14, n_15, n_16, n_20, n_24, n_25, n_32, n_36, n_40, n_41, n_42, n_43, n_45, n_46, n_48, n_57, n_59, n_60, n_73, n_76, n_97, n_99, n_100, n_106, n_109, n_120, n_122, n_136, n_160, n_176, n_200, n_255, n_800, n_1000, n_1001, n_1002, n_1003, n_1006, n_1012, n_1018, n_1019, n_1020, n_1100, n_1140, n_4800, n_4920, n_5940, n_6740, n_20220, F_X5_takeMode, B_X5_takeMode_16, k0, e1, k1, hrw]
          · rw [if_neg h13]
            obtain ⟨c3, c4⟩ := ce_of (k := 2) (lo := lo) hB hG.2.2.2.1 tt (by decide) (by decide)
            refine ⟨_, ?_, c3, c4⟩
            have f1 := x5_fail (v := nI 2) k1 o1
            rw [t4] at f1
            clear hB hG tt c1 c2 c3 c4 a1 a2
            simp (disch := first | assumption | omega) only [q_bl, q_baT, q_bi, q_ba, q_pr, q_ob, q_iT, q_iN, q_it, q_if, q_of, nI_add, pk_mul, pk_sub, nI_leI, nI_ltI, nI_eq, nI_clamp, nI_lt0, nI_eqm, m1_eq, true_or, or_true, not_false_eq_true, m1_lt, m1_nlt, m1_le, m1_nle, b01, b011, q_em, q_m1, n_0, n_1, n_2, n_3, n_4, n_5, n_6, n_7, n_8, n_9, n_10, n_11, n_12, n_14, n_15, n_16, n_20, n_24, n_25, n_32, n_36, n_40, n_41, n_42, n_43, n_45, n_46, n_48, n_57, n_59, n_60, n_73, n_76, n_97, n_99, n_100, n_106, n_109, n_120, n_122, n_136, n_160, n_176, n_200, n_255, n_800, n_1000, n_1001, n_1002, n_1003, n_1006, n_1012, n_1018, n_1019, n_1020, n_1100, n_1140, n_4800, n_4920, n_5940, n_6740, n_20220, F_X5_takeMode, B_X5_takeMode_16, k0, e1, k1, hrw, hr, h14, h15, h13, f1]
    · rw [if_neg hk]
      obtain ⟨c1, c2⟩ := ce_of (lo := lo) hB hG.2.2.2.1 tt ek_r.1 ek_r.2
      have e1 := a2 hk
      refine ⟨_, ?_, c1, c2⟩
      have k2 := c1.1.kd
      have f1 := x5_failE (v := nI 2) k2 (CE.ne c1.2)
      clear hB hG tt c1 c2 a1 a2
      generalize stI (stI μ1 d 13 (nI (ek (tk b n p)))) d 14 (nI (ts b n p)) = μ2 at *
      simp (disch := first | assumption | omega) only [q_bl, q_baT, q_bi, q_ba, q_pr, q_ob, q_iT, q_iN, q_it, q_if, q_of, nI_add, pk_mul, pk_sub, nI_leI, nI_ltI, nI_eq, nI_clamp, nI_lt0, nI_eqm, m1_eq, true_or, or_true, not_false_eq_true, m1_lt, m1_nlt, m1_le, m1_nle, b01, b011, q_em, q_m1, n_0, n_1, n_2, n_3, n_4, n_5, n_6, n_7, n_8, n_9, n_10, n_11, n_12, n_14, n_15, n_16, n_20, n_24, n_25, n_32, n_36, n_40, n_41, n_42, n_43, n_45, n_46, n_48, n_57, n_59, n_60, n_73, n_76, n_97, n_99, n_100, n_106, n_109, n_120, n_122, n_136, n_160, n_176, n_200, n_255, n_800, n_1000, n_1001, n_1002, n_1003, n_1006, n_1012, n_1018, n_1019, n_1020, n_1100, n_1140, n_4800, n_4920, n_5940, n_6740, n_20220, F_X5_takeMode, B_X5_takeMode_16, k0, e1, k2, f1]
theorem gopt {g : GST} (h : CR μ d b n lo g) : ∃ μ', F_X5_takeOption d μ = some ((g_opt b n g).1, μ') ∧ CR μ' d b n lo (g_opt b n g).2 ∧ FR d μ μ' ∧ ((g_opt b n g).1 = 0 ∨ (2 ≤ (g_opt b n g).1 ∧ (g_opt b n g).1 < 18)) := by
  obtain ⟨hB, hG⟩ := h
  have k0 := hB.kd
  match g, hG with
  | .inl e, hG =>
    have h0 := CE.ne hG
    refine ⟨μ, ?_, ⟨hB, hG⟩, FR.same, Or.inl rfl⟩
    show _ = some (0, μ)
    clear hB hG
    simp (disch := first | assumption | omega) only [q_bl, q_baT, q_bi, q_ba, q_pr, q_ob, q_iT, q_iN, q_it, q_if, q_of, nI_add, pk_mul, pk_sub, nI_leI, nI_ltI, nI_eq, nI_clamp, nI_lt0, nI_eqm, m1_eq, true_or, or_true, not_false_eq_true, m1_lt, m1_nlt, m1_le, m1_nle, b01, b011, q_em, q_m1, n_0, n_1, n_2, n_3, n_4, n_5, n_6, n_7, n_8, n_9, n_10, n_11, n_12, n_14, n_15, n_16, n_20, n_24, n_25, n_32, n_36, n_40, n_41, n_42, n_43, n_45, n_46, n_48, n_57, n_59, n_60, n_73, n_76, n_97, n_99, n_100, n_106, n_109, n_120, n_122, n_136, n_160, n_176, n_200, n_255, n_800, n_1000, n_1001, n_1002, n_1003, n_1006, n_1012, n_1018, n_1019, n_1020, n_1100, n_1140, n_4800, n_4920, n_5940, n_6740, n_20220, F_X5_takeOption, k0, h0]
  | .inr (p, ls, A, nc, wn), hG =>
    obtain ⟨μ1, e1, tt⟩ := x5_next hB hG.2.1 hG.2.2.2.1
    obtain ⟨c1, c2⟩ := co_of hB hG tt
    have k1 := c1.1.kd
    have o0 := hG.1
    have o1 := c1.2.1
    have t4 := tt.2.1
    have t5 := tt.2.2.1
    have hl := tk_le (b := b) (n := n) (p := p)
    have hrw := x5_resw (μ := μ1) k1 tt.2.2.1 tt.2.2.2.2.1
    have hr : trw b n p = 0 ∨ (2 ≤ trw b n p ∧ trw b n p < 18) := by
      unfold trw
      split
      · exact kwr_r _
      · exact Or.inl rfl
    have eg : g_opt b n (.inr (p, ls, A, nc, wn)) = if tk b n p = 4 then (0, .inl (1, ts b n p)) else if trw b n p = 0 ∧ ¬ tk b n p = 3 then (0, .inl (2, ts b n p)) else (trw b n p, .inr (te b n p, ts b n p, A, nc, wn)) := rfl
    rw [eg]
    clear eg
    by_cases h4 : tk b n p = 4
    · rw [if_pos h4]
      obtain ⟨c3, c4⟩ := ce_of (k := 1) (lo := lo) hB hG.2.2.2.1 tt (by decide) (by decide)
      refine ⟨_, ?_, c3, c4, Or.inl rfl⟩
      have f1 := x5_fail (v := nI 1) k1 o1
      rw [t4] at f1
      have hz : trw b n p = 0 := by unfold trw; rw [if_neg (by omega)]
      rw [hz] at hrw
      rw [h4] at t5
      clear hB hG tt c1 c2 c3 c4
      simp (disch := first | assumption | omega) only [q_bl, q_baT, q_bi, q_ba, q_pr, q_ob, q_iT, q_iN, q_it, q_if, q_of, nI_add, pk_mul, pk_sub, nI_leI, nI_ltI, nI_eq, nI_clamp, nI_lt0, nI_eqm, m1_eq, true_or, or_true, not_false_eq_true, m1_lt, m1_nlt, m1_le, m1_nle, b01, b011, q_em, q_m1, n_0, n_1, n_2, n_3, n_4, n_5, n_6, n_7, n_8, n_9, n_10, n_11, n_12, n_14, n_15, n_16, n_20, n_24, n_25, n_32, n_36, n_40, n_41, n_42, n_43, n_45, n_46, n_48, n_57, n_59, n_60, n_73, n_76, n_97, n_99, n_100, n_106, n_109, n_120, n_122, n_136, n_160, n_176, n_200, n_255, n_800, n_1000, n_1001, n_1002, n_1003, n_1006, n_1012, n_1018, n_1019, n_1020, n_1100, n_1140, n_4800, n_4920, n_5940, n_6740, n_20220, F_X5_takeOption, k0, o0, e1, k1, hrw, t5, f1]
    · rw [if_neg h4]
      have n4 : ¬ nI (tk b n p) = nI 4 := by rw [nI_eq (by omega) (by decide)]; exact h4
      by_cases h0 : trw b n p = 0 ∧ ¬ tk b n p = 3
      · rw [if_pos h0]
        obtain ⟨c3, c4⟩ := ce_of (k := 2) (lo := lo) hB hG.2.2.2.1 tt (by decide) (by decide)
        refine ⟨_, ?_, c3, c4, Or.inl rfl⟩
        have f1 := x5_fail (v := nI 2) k1 o1
        rw [t4] at f1
        have n3 : ¬ nI (tk b n p) = nI 3 := by rw [nI_eq (by omega) (by decide)]; exact h0.2
        rw [h0.1] at hrw
        clear hB hG tt c1 c2 c3 c4 hr
        simp (disch := first | assumption | omega) only [q_bl, q_baT, q_bi, q_ba, q_pr, q_ob, q_iT, q_iN, q_it, q_if, q_of, nI_add, pk_mul, pk_sub, nI_leI, nI_ltI, nI_clamp, nI_lt0, nI_eqm, m1_eq, true_or, or_true, not_false_eq_true, m1_lt, m1_nlt, m1_le, m1_nle, b01, b011, q_em, q_m1, n_0, n_1, n_2, n_3, n_4, n_5, n_6, n_7, n_8, n_9, n_10, n_11, n_12, n_14, n_15, n_16, n_20, n_24, n_25, n_32, n_36, n_40, n_41, n_42, n_43, n_45, n_46, n_48, n_57, n_59, n_60, n_73, n_76, n_97, n_99, n_100, n_106, n_109, n_120, n_122, n_136, n_160, n_176, n_200, n_255, n_800, n_1000, n_1001, n_1002, n_1003, n_1006, n_1012, n_1018, n_1019, n_1020, n_1100, n_1140, n_4800, n_4920, n_5940, n_6740, n_20220, F_X5_takeOption, k0, o0, e1, k1, hrw, t5, n4, n3, f1]
      · rw [if_neg h0]
        refine ⟨μ1, ?_, c1, c2, hr⟩
        clear hB hG tt c1 c2 hr
        by_cases hz : trw b n p = 0
        · have h3 : tk b n p = 3 := by omega
          rw [h3] at t5
          rw [hz] at hrw ⊢
          simp (disch := first | assumption | omega) only [q_bl, q_baT, q_bi, q_ba, q_pr, q_ob, q_iT, q_iN, q_it, q_if, q_of, nI_add, pk_mul, pk_sub, nI_leI, nI_ltI, nI_eq, nI_clamp, nI_lt0, nI_eqm, m1_eq, true_or, or_true, not_false_eq_true, m1_lt, m1_nlt, m1_le, m1_nle, b01, b011, q_em, q_m1, n_0, n_1, n_2, n_3, n_4, n_5, n_6, n_7, n_8, n_9, n_10, n_11, n_12, n_14, n_15, n_16, n_20, n_24, n_25, n_32, n_36, n_40, n_41, n_42, n_43, n_45, n_46, n_48, n_57, n_59, n_60, n_73, n_76, n_97, n_99, n_100, n_106, n_109, n_120, n_122, n_136, n_160, n_176, n_200, n_255, n_800, n_1000, n_1001, n_1002, n_1003, n_1006, n_1012, n_1018, n_1019, n_1020, n_1100, n_1140, n_4800, n_4920, n_5940, n_6740, n_20220, F_X5_takeOption, k0, o0, e1, k1, hrw, t5]
        · simp (disch := first | assumption | omega) only [q_bl, q_baT, q_bi, q_ba, q_pr, q_ob, q_iT, q_iN, q_it, q_if, q_of, nI_add, pk_mul, pk_sub, nI_leI, nI_ltI, nI_clamp, nI_lt0, nI_eqm, m1_eq, true_or, or_true, not_false_eq_true, m1_lt, m1_nlt, m1_le, m1_nle, b01, b011, q_em, q_m1, n_0, n_1, n_2, n_3, n_4, n_5, n_6, n_7, n_8, n_9, n_10, n_11, n_12, n_14, n_15, n_16, n_20, n_24, n_25, n_32, n_36, n_40, n_41, n_42, n_43, n_45, n_46, n_48, n_57, n_59, n_60, n_73, n_76, n_97, n_99, n_100, n_106, n_109, n_120, n_122, n_136, n_160, n_176, n_200, n_255, n_800, n_1000, n_1001, n_1002, n_1003, n_1006, n_1012, n_1018, n_1019, n_1020, n_1100, n_1140, n_4800, n_4920, n_5940, n_6740, n_20220, F_X5_takeOption, k0, o0, e1, k1, hrw, t5, n4, hz]
end STP

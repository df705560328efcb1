/-! LAYER 3: lines that depend on a card -/
section DEP
variable {μ μ0 μa μb μc μ1 μ2 : Mem} {x : Nat} {A B C G F1 F2 : SA}
theorem fin_lo {i : Nat} (w : WB A) (hi : i < 1000) : sp_fin A i = A i := by
  unfold sp_fin sp_tot
  have w2 : WB (sp_procs (nt (A 8) - nt (A 1000)) A) := w.cg (fun j hj => procs_o _ _ _ w (by omega) (by omega))
  rw [ua_n (by omega)]
  split
  · exact procs_o _ _ _ w (by omega) (by omega)
  · rw [cycs_o _ _ _ _ w2 (by decide) (by omega)]; exact procs_o _ _ _ w (by omega) (by omega)
theorem MO.drop {r c k n : Nat} (h : MO μ r (sp_reset A) 0) (w : WB A) (hn : nt (A 8) = n) (hk : c + k + 1 = n) (hG : ∀ i, i < 1000 → G i = A i) (f : Fx (fun a => a = r + 19 ∨ a = r + 20) μ μ1) (g : gI μ1 (r + 19) 1 = nI (n - 1)) (hr : RDn (gI μ1) (r + 19) (rms k c G) n) : MO μ1 r (sp_reset (ua (rms k c G) 8 (nI (n - 1)))) 0 := by
  obtain ⟨s, ⟨q1, q2, q3, q4, q5, q6, q7, q8, q9⟩, w0, m0⟩ := h
  have c8 := w.c8.2
  have wG : WB G := w.cg hG
  have nt8 : nt (nI (n - 1)) = n - 1 := nt_nI (by omega)
  have lcG : lcn G n := fun i j hi j1 j2 => by rw [hG _ (by omega)]; exact w.lc (by omega) j1 j2
  have eA : ∀ i, i < 200 → ¬ i = 8 → ua (rms k c G) 8 (nI (n - 1)) i = A i := fun i hi h8 => by rw [ua_n h8, rms_lo k c G i hi, hG i (by omega)]
  have wB : WB (ua (rms k c G) 8 (nI (n - 1))) := wb_deck w eA (by rw [ua_s]; exact ⟨n - 1, rfl, by omega, by omega⟩) (fun i j hi j1 j2 => by
    rw [ua_s, nt8] at hi
    rw [ua_n (by omega)]; exact rms_lc (n := n) k c G (by omega) lcG i j (by omega) j1 j2)
  have ez : ∀ i, 1000 ≤ i → i < 1020 → sp_reset (ua (rms k c G) 8 (nI (n - 1))) i = sp_reset A i := fun i i1 i2 => by rw [reset_0 i1 i2, reset_0 i1 i2]
  refine ⟨s.fx f, ⟨?_, ⟨?_, fun i j hi j1 j2 => ?_⟩, fun j hj => ?_, fun j hj => ?_, fun j hj => ?_, fun l l1 l2 => ?_, ⟨?_, fun l hl => ?_⟩, ⟨?_, fun i j hi j1 j2 => ?_⟩, ?_⟩, wB.cg (fun i hi => reset_lo hi), WM.reset wB⟩
  · exact q1.deck w0 (fun a a1 a2 => f.I (by omega)) (fun i hi h8 => by rw [reset_lo (by omega), reset_lo (by omega)]; exact eA i hi h8)
  · rw [g, reset_lo (by decide), ua_s]
  · rw [reset_lo (by decide), ua_s, nt8] at hi
    rw [reset_lo (by omega), ua_n (by omega)]; exact hr i j (by omega) j1 j2
  · rw [f.I (by omega), ez _ (by omega) (by omega)]; exact q3 j hj
  · rw [f.I (by omega), ez _ (by omega) (by omega)]; exact q4 j hj
  · rw [f.I (by omega), ez _ (by omega) (by omega)]; exact q5 j hj
  · rw [f.I (by omega), ez _ (by omega) (by omega)]; exact q6 l l1 l2
  · rw [f.I (by omega), ez _ (by omega) (by omega)]; exact q7.1
  · rw [reset_0 (by decide) (by decide), nt0] at hl; omega
  · rw [f.I (by omega), ez _ (by omega) (by omega)]; exact q8.1
  · rw [reset_0 (by decide) (by decide), nt0] at hi; omega
  · unfold RF; rw [f.I (by omega), ez _ (by omega) (by omega), ez _ (by omega) (by omega), ez _ (by omega) (by omega)]; exact q9
/-- lines that depend -/
noncomputable def dpn (F2 F1 : SA) (n2 : Nat) : Nat → Nat → Nat → Nat
  | 0, _, g => g
  | r + 1, l, g => dpn F2 F1 n2 r (l + 1) (@ite _ (F1 (1020 + l) ≤ nI 0 ∨ oc F2 F1 n2 l 0) (Classical.propDecidable _) g (g + 1))
theorem l8_dep {t1 t2 b : Nat} (is : IS μ x) (h1 : MO μ (x + 57) F1 b) (h2 : MO μ (x + 88) F2 b) (v1 : F1 1018 = nI t1) (v2 : F2 1018 = nI t2) (b1 : t1 < 1000000) (b2 : t2 < 1000000) : ∀ (r fu l g : Nat), r < fu → l + r = min t1 120 → g ≤ l → L_X8_linesDependingOn_76 fu x (nI g) (nI l) μ = some (.inr (nI (dpn F2 F1 (min t2 120) r l g)), μ) := by
  have s1 := h1.1
  have s2 := h2.1
  have p1 := h1.2.1.2.2.2.2.2.2.1
  have p2 := h2.2.1.2.2.2.2.2.2.1
  have g1 : gI μ (x + 57 + 26) 2 = nI t1 := p1.1.trans v1
  have g2 : gI μ (x + 88 + 26) 2 = nI t2 := p2.1.trans v2
  have ek := x4_kept s1.sp g1 (by omega)
  have p1' := p1.2
  have p2' := p2.2
  rw [v1, nt_nI (by omega)] at p1'
  rw [v2, nt_nI (by omega)] at p2'
  intro r
  induction r with
  | zero =>
    intro fu l g hf he hg
    obtain ⟨fu, rfl⟩ : ∃ k, fu = k + 1 := ⟨fu - 1, by omega⟩
    show _ = some (Sum.inr (nI g), μ)
    have hl : min t1 120 = l := by omega
    rw [hl] at ek
    clear h1 h2 p1 p2 p1' p2' g1 g2
    simp (disch := first | assumption | omega) only [q_bl, q_baT, q_bi, q_ba, q_pr, q_ob, q_iT, q_iN, q_it, q_if, q_of, nI_add, pk_mul, pk_sub, nI_leI, nI_ltI, nI_eq, nI_clamp, nI_lt0, nI_eqm, m1_eq, true_or, or_true, not_false_eq_true, m1_lt, m1_nlt, m1_le, m1_nle, b01, b011, q_em, q_m1, n_0, n_1, n_2, n_3, n_4, n_5, n_6, n_7, n_8, n_9, n_10, n_11, n_12, n_14, n_15, n_16, n_20, n_24, n_25, n_32, n_36, n_40, n_41, n_42, n_43, n_45, n_46, n_48, n_57, n_59, n_60, n_73, n_76, n_97, n_99, n_100, n_106, n_109, n_120, n_122, n_136, n_160, n_176, n_200, n_255, n_800, n_1000, n_1001, n_1002, n_1003, n_1006, n_1012, n_1018, n_1019, n_1020, n_1100, n_1140, n_4800, n_4920, n_5940, n_6740, n_20220, L_X8_linesDependingOn_76, B_X8_linesDependingOn_76, is.kx, is.r2, s1.k0, s1.r7, s1.k26, ek]
  | succ r ih =>
    intro fu l g hf he hg
    obtain ⟨fu, rfl⟩ : ∃ k, fu = k + 1 := ⟨fu - 1, by omega⟩
    have el := x4_level s1.sp g1 (by omega) (show l < min t1 120 by omega)
    rw [(p1' l (by omega)).1] at el
    have eh := l4_has (F2 := F2) (F1 := F1) (n2 := min t2 120) (l := l) s2.sp s1.sp g2 g1 (by omega) (by omega) rfl (by omega) (fun j hj => p2' j hj) (p1' l (by omega)) (min t2 120) FU 0 (FU_gt (by omega)) (by omega)
    have eh2 : F_X4_hasLine (x + 88 + 26) (x + 57 + 26) (nI l) μ = some (@ite _ (oc F2 F1 (min t2 120) l 0) (Classical.propDecidable _) (nI 1) (nI 0)) := by
      clear ih h1 h2 p1 p2 p1' p2' g1 g2 el ek
      simp (disch := first | assumption | omega) only [q_bl, q_baT, q_bi, q_ba, q_pr, q_ob, q_iT, q_iN, q_it, q_if, q_of, nI_add, pk_mul, pk_sub, nI_leI, nI_ltI, nI_eq, nI_clamp, nI_lt0, nI_eqm, m1_eq, true_or, or_true, not_false_eq_true, m1_lt, m1_nlt, m1_le, m1_nle, b01, b011, q_em, q_m1, n_0, n_1, n_2, n_3, n_4, n_5, n_6, n_7, n_8, n_9, n_10, n_11, n_12, n_14, n_15, n_16, n_20, n_24, n_25, n_32, n_36, n_40, n_41, n_42, n_43, n_45, n_46, n_48, n_57, n_59, n_60, n_73, n_76, n_97, n_99, n_100, n_106, n_109, n_120, n_122, n_136, n_160, n_176, n_200, n_255, n_800, n_1000, n_1001, n_1002, n_1003, n_1006, n_1012, n_1018, n_1019, n_1020, n_1100, n_1140, n_4800, n_4920, n_5940, n_6740, n_20220, F_X4_hasLine, eh]
    have q1 := ih fu (l + 1) (@ite _ (F1 (1020 + l) ≤ nI 0 ∨ oc F2 F1 (min t2 120) l 0) (Classical.propDecidable _) g (g + 1)) (by omega) (by omega) (by split <;> omega)
    show _ = some (Sum.inr (nI (dpn F2 F1 (min t2 120) r (l + 1) _)), μ)
    have hlt : l < min t1 120 := by omega
    have hlu : min t1 120 ≤ 120 := by omega
    clear ih h1 h2 p1 p2 p1' p2' g1 g2 eh
    rw [show L_X8_linesDependingOn_76 (fu + 1) = B_X8_linesDependingOn_76 (L_X8_linesDependingOn_76 fu) from rfl]
    generalize L_X8_linesDependingOn_76 fu = K at *
    generalize min t1 120 = n1 at *
    by_cases hx : F1 (1020 + l) ≤ nI 0
    · rw [if_pos (Or.inl hx)] at q1 ⊢
      clear eh2
      simp (disch := first | assumption | omega) only [q_bl, q_baT, q_bi, q_ba, q_pr, q_ob, q_iT, q_iN, q_it, q_if, q_of, nI_add, pk_mul, pk_sub, nI_leI, nI_ltI, nI_eq, nI_clamp, nI_lt0, nI_eqm, m1_eq, true_or, or_true, not_false_eq_true, m1_lt, m1_nlt, m1_le, m1_nle, b01, b011, q_em, q_m1, n_0, n_1, n_2, n_3, n_4, n_5, n_6, n_7, n_8, n_9, n_10, n_11, n_12, n_14, n_15, n_16, n_20, n_24, n_25, n_32, n_36, n_40, n_41, n_42, n_43, n_45, n_46, n_48, n_57, n_59, n_60, n_73, n_76, n_97, n_99, n_100, n_106, n_109, n_120, n_122, n_136, n_160, n_176, n_200, n_255, n_800, n_1000, n_1001, n_1002, n_1003, n_1006, n_1012, n_1018, n_1019, n_1020, n_1100, n_1140, n_4800, n_4920, n_5940, n_6740, n_20220, B_X8_linesDependingOn_76, B_X8_linesDependingOn_109, B_X8_linesDependingOn_140, is.kx, is.r2, s1.k0, s1.r7, s1.k26, ek, el, q1]
    · by_cases hy : oc F2 F1 (min t2 120) l 0
      · rw [if_pos (Or.inr hy)] at q1 ⊢
        rw [if_pos hy] at eh2
        clear hy
        simp (disch := first | assumption | omega) only [q_bl, q_baT, q_bi, q_ba, q_pr, q_ob, q_iT, q_iN, q_it, q_if, q_of, nI_add, pk_mul, pk_sub, nI_leI, nI_ltI, nI_eq, nI_clamp, nI_lt0, nI_eqm, m1_eq, true_or, or_true, not_false_eq_true, m1_lt, m1_nlt, m1_le, m1_nle, b01, b011, q_em, q_m1, n_0, n_1, n_2, n_3, n_4, n_5, n_6, n_7, n_8, n_9, n_10, n_11, n_12, n_14, n_15, n_16, n_20, n_24, n_25, n_32, n_36, n_40, n_41, n_42, n_43, n_45, n_46, n_48, n_57, n_59, n_60, n_73, n_76, n_97, n_99, n_100, n_106, n_109, n_120, n_122, n_136, n_160, n_176, n_200, n_255, n_800, n_1000, n_1001, n_1002, n_1003, n_1006, n_1012, n_1018, n_1019, n_1020, n_1100, n_1140, n_4800, n_4920, n_5940, n_6740, n_20220, B_X8_linesDependingOn_76, B_X8_linesDependingOn_109, B_X8_linesDependingOn_140, is.kx, is.r2, is.r3, s1.k0, s1.r7, s1.k26, s2.k0, s2.r7, s2.k26, ek, el, eh2, q1]
      · rw [if_neg (fun e => e.elim hx hy)] at q1 ⊢
        rw [if_neg hy] at eh2
        clear hy
        simp (disch := first | assumption | omega) only [q_bl, q_baT, q_bi, q_ba, q_pr, q_ob, q_iT, q_iN, q_it, q_if, q_of, nI_add, pk_mul, pk_sub, nI_leI, nI_ltI, nI_eq, nI_clamp, nI_lt0, nI_eqm, m1_eq, true_or, or_true, not_false_eq_true, m1_lt, m1_nlt, m1_le, m1_nle, b01, b011, q_em, q_m1, n_0, n_1, n_2, n_3, n_4, n_5, n_6, n_7, n_8, n_9, n_10, n_11, n_12, n_14, n_15, n_16, n_20, n_24, n_25, n_32, n_36, n_40, n_41, n_42, n_43, n_45, n_46, n_48, n_57, n_59, n_60, n_73, n_76, n_97, n_99, n_100, n_106, n_109, n_120, n_122, n_136, n_160, n_176, n_200, n_255, n_800, n_1000, n_1001, n_1002, n_1003, n_1006, n_1012, n_1018, n_1019, n_1020, n_1100, n_1140, n_4800, n_4920, n_5940, n_6740, n_20220, B_X8_linesDependingOn_76, B_X8_linesDependingOn_109, B_X8_linesDependingOn_140, is.kx, is.r2, is.r3, s1.k0, s1.r7, s1.k26, s2.k0, s2.r7, s2.k26, ek, el, eh2, q1]
theorem l9_dep {m n1 t2 : Nat} (h : RA μ m F2) (v2 : F2 1018 = nI t2) (b2 : t2 < 1000000) (hn : n1 ≤ 120) (h25 : gI μ m 25 = nI n1) (hk : ∀ i, i < 4920 → gI μ (m + 11) i = F1 (1020 + i)) (ec : F_X9_comeBack m μ = some μ2) : ∀ (r fu l g : Nat), r < fu → l + r = n1 → g ≤ l → L_X9_linesDependingOn_39 fu m (nI g) (nI l) μ = some (nI (dpn F2 F1 (min t2 120) r l g), μ2) := by
  have s := h.1
  intro r
  induction r with
  | zero =>
    intro fu l g hf he hg
    obtain ⟨fu, rfl⟩ : ∃ k, fu = k + 1 := ⟨fu - 1, by omega⟩
    obtain rfl : l = n1 := by omega
    show _ = some (nI g, μ2)
    clear h hk v2
    simp (disch := first | assumption | omega) only [q_bl, q_baT, q_bi, q_ba, q_pr, q_ob, q_iT, q_iN, q_it, q_if, q_of, nI_add, pk_mul, pk_sub, nI_leI, nI_ltI, nI_eq, nI_clamp, nI_lt0, nI_eqm, m1_eq, true_or, or_true, not_false_eq_true, m1_lt, m1_nlt, m1_le, m1_nle, b01, b011, q_em, q_m1, n_0, n_1, n_2, n_3, n_4, n_5, n_6, n_7, n_8, n_9, n_10, n_11, n_12, n_14, n_15, n_16, n_20, n_24, n_25, n_32, n_36, n_40, n_41, n_42, n_43, n_45, n_46, n_48, n_57, n_59, n_60, n_73, n_76, n_97, n_99, n_100, n_106, n_109, n_120, n_122, n_136, n_160, n_176, n_200, n_255, n_800, n_1000, n_1001, n_1002, n_1003, n_1006, n_1012, n_1018, n_1019, n_1020, n_1100, n_1140, n_4800, n_4920, n_5940, n_6740, n_20220, L_X9_linesDependingOn_39, B_X9_linesDependingOn_39, s.k0, h25, ec]
  | succ r ih =>
    intro fu l g hf he hg
    obtain ⟨fu, rfl⟩ : ∃ k, fu = k + 1 := ⟨fu - 1, by omega⟩
    have el : gI μ (m + 11) l = F1 (1020 + l) := hk l (by omega)
    have eo := l9_occ (F1 := F1) (n2 := min t2 120) (l := l) h v2 (by omega) rfl (by omega) hk (min t2 120) FU 0 (FU_gt (by omega)) (by omega)
    have eo2 : F_X9_occurs m (nI l) μ = some (@ite _ (oc F2 F1 (min t2 120) l 0) (Classical.propDecidable _) (nI 1) (nI 0)) := by
      clear ih h hk el ec
      simp (disch := first | assumption | omega) only [q_bl, q_baT, q_bi, q_ba, q_pr, q_ob, q_iT, q_iN, q_it, q_if, q_of, nI_add, pk_mul, pk_sub, nI_leI, nI_ltI, nI_eq, nI_clamp, nI_lt0, nI_eqm, m1_eq, true_or, or_true, not_false_eq_true, m1_lt, m1_nlt, m1_le, m1_nle, b01, b011, q_em, q_m1, n_0, n_1, n_2, n_3, n_4, n_5, n_6, n_7, n_8, n_9, n_10, n_11, n_12, n_14, n_15, n_16, n_20, n_24, n_25, n_32, n_36, n_40, n_41, n_42, n_43, n_45, n_46, n_48, n_57, n_59, n_60, n_73, n_76, n_97, n_99, n_100, n_106, n_109, n_120, n_122, n_136, n_160, n_176, n_200, n_255, n_800, n_1000, n_1001, n_1002, n_1003, n_1006, n_1012, n_1018, n_1019, n_1020, n_1100, n_1140, n_4800, n_4920, n_5940, n_6740, n_20220, F_X9_occurs, eo]
    have q1 := ih fu (l + 1) (@ite _ (F1 (1020 + l) ≤ nI 0 ∨ oc F2 F1 (min t2 120) l 0) (Classical.propDecidable _) g (g + 1)) (by omega) (by omega) (by split <;> omega)
    show _ = some (nI (dpn F2 F1 (min t2 120) r (l + 1) _), μ2)
    clear ih h hk ec eo v2
    rw [show L_X9_linesDependingOn_39 (fu + 1) = B_X9_linesDependingOn_39 (L_X9_linesDependingOn_39 fu) from rfl]
    generalize L_X9_linesDependingOn_39 fu = K at *
    by_cases hx : F1 (1020 + l) ≤ nI 0
    · rw [if_pos (Or.inl hx)] at q1 ⊢
      clear eo2
      simp (disch := first | assumption | omega) only [q_bl, q_baT, q_bi, q_ba, q_pr, q_ob, q_iT, q_iN, q_it, q_if, q_of, nI_add, pk_mul, pk_sub, nI_leI, nI_ltI, nI_eq, nI_clamp, nI_lt0, nI_eqm, m1_eq, true_or, or_true, not_false_eq_true, m1_lt, m1_nlt, m1_le, m1_nle, b01, b011, q_em, q_m1, n_0, n_1, n_2, n_3, n_4, n_5, n_6, n_7, n_8, n_9, n_10, n_11, n_12, n_14, n_15, n_16, n_20, n_24, n_25, n_32, n_36, n_40, n_41, n_42, n_43, n_45, n_46, n_48, n_57, n_59, n_60, n_73, n_76, n_97, n_99, n_100, n_106, n_109, n_120, n_122, n_136, n_160, n_176, n_200, n_255, n_800, n_1000, n_1001, n_1002, n_1003, n_1006, n_1012, n_1018, n_1019, n_1020, n_1100, n_1140, n_4800, n_4920, n_5940, n_6740, n_20220, B_X9_linesDependingOn_39, B_X9_linesDependingOn_67, s.k0, h25, s.r24, s.k11, s.l11, el, q1]
    · by_cases hy : oc F2 F1 (min t2 120) l 0
      · rw [if_pos (Or.inr hy)] at q1 ⊢
        rw [if_pos hy] at eo2
        clear hy
        simp (disch := first | assumption | omega) only [q_bl, q_baT, q_bi, q_ba, q_pr, q_ob, q_iT, q_iN, q_it, q_if, q_of, nI_add, pk_mul, pk_sub, nI_leI, nI_ltI, nI_eq, nI_clamp, nI_lt0, nI_eqm, m1_eq, true_or, or_true, not_false_eq_true, m1_lt, m1_nlt, m1_le, m1_nle, b01, b011, q_em, q_m1, n_0, n_1, n_2, n_3, n_4, n_5, n_6, n_7, n_8, n_9, n_10, n_11, n_12, n_14, n_15, n_16, n_20, n_24, n_25, n_32, n_36, n_40, n_41, n_42, n_43, n_45, n_46, n_48, n_57, n_59, n_60, n_73, n_76, n_97, n_99, n_100, n_106, n_109, n_120, n_122, n_136, n_160, n_176, n_200, n_255, n_800, n_1000, n_1001, n_1002, n_1003, n_1006, n_1012, n_1018, n_1019, n_1020, n_1100, n_1140, n_4800, n_4920, n_5940, n_6740, n_20220, B_X9_linesDependingOn_39, B_X9_linesDependingOn_67, s.k0, h25, s.r24, s.k11, s.l11, el, eo2, q1]
      · rw [if_neg (fun e => e.elim hx hy)] at q1 ⊢
        rw [if_neg hy] at eo2
        clear hy
        simp (disch := first | assumption | omega) only [q_bl, q_baT, q_bi, q_ba, q_pr, q_ob, q_iT, q_iN, q_it, q_if, q_of, nI_add, pk_mul, pk_sub, nI_leI, nI_ltI, nI_eq, nI_clamp, nI_lt0, nI_eqm, m1_eq, true_or, or_true, not_false_eq_true, m1_lt, m1_nlt, m1_le, m1_nle, b01, b011, q_em, q_m1, n_0, n_1, n_2, n_3, n_4, n_5, n_6, n_7, n_8, n_9, n_10, n_11, n_12, n_14, n_15, n_16, n_20, n_24, n_25, n_32, n_36, n_40, n_41, n_42, n_43, n_45, n_46, n_48, n_57, n_59, n_60, n_73, n_76, n_97, n_99, n_100, n_106, n_109, n_120, n_122, n_136, n_160, n_176, n_200, n_255, n_800, n_1000, n_1001, n_1002, n_1003, n_1006, n_1012, n_1018, n_1019, n_1020, n_1100, n_1140, n_4800, n_4920, n_5940, n_6740, n_20220, B_X9_linesDependingOn_39, B_X9_linesDependingOn_67, s.k0, h25, s.r24, s.k11, s.l11, el, eo2, q1]
theorem l9_keep {m : Nat} : ∀ (r fu i : Nat) (μ : Mem), r < fu → i + r = 4920 → RA μ m A → ∃ μ', L_X9_keepLines_10 fu m (nI i) μ = some μ' ∧ (∀ j, gI μ' (m + 11) j = if i ≤ j ∧ j < 4920 then A (1020 + j) else gI μ (m + 11) j) ∧ Fx (fun a => a = m + 11) μ μ' := by
  intro r
  induction r with
  | zero =>
    intro fu i μ hf he h
    obtain ⟨fu, rfl⟩ : ∃ k, fu = k + 1 := ⟨fu - 1, by omega⟩
    obtain rfl : i = 4920 := by omega
    refine ⟨μ, ?_, fun j => by rw [if_neg (by omega)], Fx.same⟩
    clear h
    simp (disch := first | assumption | omega) only [q_bl, q_baT, q_bi, q_ba, q_pr, q_ob, q_iT, q_iN, q_it, q_if, q_of, nI_add, pk_mul, pk_sub, nI_leI, nI_ltI, nI_eq, nI_clamp, nI_lt0, nI_eqm, m1_eq, true_or, or_true, not_false_eq_true, m1_lt, m1_nlt, m1_le, m1_nle, b01, b011, q_em, q_m1, n_0, n_1, n_2, n_3, n_4, n_5, n_6, n_7, n_8, n_9, n_10, n_11, n_12, n_14, n_15, n_16, n_20, n_24, n_25, n_32, n_36, n_40, n_41, n_42, n_43, n_45, n_46, n_48, n_57, n_59, n_60, n_73, n_76, n_97, n_99, n_100, n_106, n_109, n_120, n_122, n_136, n_160, n_176, n_200, n_255, n_800, n_1000, n_1001, n_1002, n_1003, n_1006, n_1012, n_1018, n_1019, n_1020, n_1100, n_1140, n_4800, n_4920, n_5940, n_6740, n_20220, L_X9_keepLines_10, B_X9_keepLines_10]
  | succ r ih =>
    intro fu i μ hf he h
    obtain ⟨fu, rfl⟩ : ∃ k, fu = k + 1 := ⟨fu - 1, by omega⟩
    have s := h.1
    have g1 : gI μ (m + 1) (1020 + i) = A (1020 + i) := by rw [h.2]
    have f1 : Fx (fun a => a = m + 11) μ (stI μ (m + 11) i (A (1020 + i))) := Fx.stI rfl
    obtain ⟨μ', q1, q2, q3⟩ := ih fu (i + 1) _ (by omega) (by omega) (h.fx f1 (by omega))
    refine ⟨μ', ?_, fun j => ?_, f1.trans q3⟩
    · clear h q2 q3 ih f1
      simp (disch := first | assumption | omega) only [q_bl, q_baT, q_bi, q_ba, q_pr, q_ob, q_iT, q_iN, q_it, q_if, q_of, nI_add, pk_mul, pk_sub, nI_leI, nI_ltI, nI_eq, nI_clamp, nI_lt0, nI_eqm, m1_eq, true_or, or_true, not_false_eq_true, m1_lt, m1_nlt, m1_le, m1_nle, b01, b011, q_em, q_m1, n_0, n_1, n_2, n_3, n_4, n_5, n_6, n_7, n_8, n_9, n_10, n_11, n_12, n_14, n_15, n_16, n_20, n_24, n_25, n_32, n_36, n_40, n_41, n_42, n_43, n_45, n_46, n_48, n_57, n_59, n_60, n_73, n_76, n_97, n_99, n_100, n_106, n_109, n_120, n_122, n_136, n_160, n_176, n_200, n_255, n_800, n_1000, n_1001, n_1002, n_1003, n_1006, n_1012, n_1018, n_1019, n_1020, n_1100, n_1140, n_4800, n_4920, n_5940, n_6740, n_20220, L_X9_keepLines_10, B_X9_keepLines_10, s.k0, s.r0, s.k1, s.l1, s.r24, s.k11, s.l11, g1, q1]
    · rw [q2 j, q_iI]
      by_cases hj : j = i
      · subst hj; rw [if_neg (by omega), q_us, if_pos (by omega)]
      · rw [q_un (fun e => hj e.2)]
        by_cases h5 : i + 1 ≤ j ∧ j < 4920
        · rw [if_pos h5, if_pos (by omega)]
        · rw [if_neg h5, if_neg (by omega)]
theorem x9_keep {m t : Nat} (h : RA μ m A) (v : A 1018 = nI t) (ht : t < 1000000) : ∃ μ', F_X9_keepLines m μ = some μ' ∧ RA μ' m A ∧ gI μ' m 25 = nI (min t 120) ∧ gI μ' m 5 = gI μ m 5 ∧ (∀ j, j < 4920 → gI μ' (m + 11) j = A (1020 + j)) ∧ RK μ μ' m ∧ gI μ' (m + 3) = gI μ (m + 3) ∧ gJ μ' (m + 12) = gJ μ (m + 12) := by
  have ek := x9_kept2 h v (by omega)
  have s := h.1
  have f0 : Fx (fun a => a = m) μ (stI μ m 25 (nI (min t 120))) := Fx.stI rfl
  obtain ⟨μ', q1, q2, q3⟩ := l9_keep (m := m) 4920 FU 0 (stI μ m 25 (nI (min t 120))) (FU_gt (by decide)) (by decide) (h.fx f0 (by omega))
  have r0 : RK μ (stI μ m 25 (nI (min t 120))) m := ⟨f0.mono (fun a ha => ⟨by omega, by omega⟩), f0.I (by omega), f0.I (by omega), f0.I (by omega), fun j j1 j2 => by rw [q_iI, q_un (by omega)]⟩
  refine ⟨μ', ?_, (h.fx f0 (by omega)).fx q3 (by omega), ?_, ?_, fun j hj => by rw [q2 j, if_pos (by omega)], r0.trans (RK.of q3 (fun a ha => by omega)), ?_, ?_⟩
  · clear q2 q3 r0 h f0 v
    generalize min t 120 = tt at *
    simp (disch := first | assumption | omega) only [q_bl, q_baT, q_bi, q_ba, q_pr, q_ob, q_iT, q_iN, q_it, q_if, q_of, nI_add, pk_mul, pk_sub, nI_leI, nI_ltI, nI_eq, nI_clamp, nI_lt0, nI_eqm, m1_eq, true_or, or_true, not_false_eq_true, m1_lt, m1_nlt, m1_le, m1_nle, b01, b011, q_em, q_m1, n_0, n_1, n_2, n_3, n_4, n_5, n_6, n_7, n_8, n_9, n_10, n_11, n_12, n_14, n_15, n_16, n_20, n_24, n_25, n_32, n_36, n_40, n_41, n_42, n_43, n_45, n_46, n_48, n_57, n_59, n_60, n_73, n_76, n_97, n_99, n_100, n_106, n_109, n_120, n_122, n_136, n_160, n_176, n_200, n_255, n_800, n_1000, n_1001, n_1002, n_1003, n_1006, n_1012, n_1018, n_1019, n_1020, n_1100, n_1140, n_4800, n_4920, n_5940, n_6740, n_20220, F_X9_keepLines, s.k0, ek, q1]
  · rw [q3.I (a := m) (by omega), q_iI, q_us]
  · rw [q3.I (a := m) (by omega), q_iI, q_un (by omega)]
  · rw [q3.I (a := m + 3) (by omega), f0.I (by omega)]
  · rw [q3.J (a := m + 12) (by omega), f0.J (by omega)]
end DEP

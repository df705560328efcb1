/-! LAYER 3: the class's machine: whole cards, whole runs -/
theorem sp_cyc_eq (A : SA) (l : Nat) : sp_cyc A l = ua (sp_clear l 0 (nt (A 6)) (sp_psum (sp_ptot (sp_roll l 0 (nt (A 5)) A) l) l)) (1003 + l - 1) (sp_clear l 0 (nt (A 6)) (sp_psum (sp_ptot (sp_roll l 0 (nt (A 5)) A) l) l) (1003 + l - 1) + nI 1) := rfl
theorem cyc_o {A : SA} {l i : Nat} (w : WB A) (h1 : 1 ≤ l) (h : i < 1003) : sp_cyc A l i = A i := by
  have e1 : ∀ j, j < 1003 → sp_ptot (sp_roll l 0 (nt (A 5)) A) l j = A j := fun j hj => by
    rw [ptot_o (by omega), roll_o _ _ _ _ (by omega) (by omega) w]
  have e2 : ∀ j, j < 1003 → sp_psum (sp_ptot (sp_roll l 0 (nt (A 5)) A) l) l j = A j := fun j hj => by
    rw [psum_o (by omega) (by omega), e1 j hj]
  rw [sp_cyc_eq, ua_n (by omega), clear_o _ _ _ _ (by omega) (by rw [e2 6 (by decide)]; omega) (w.cg (fun j hj => e2 j (by omega))), e2 i h]
theorem x3_cyc {μ : Mem} {r b l n : Nat} {A : SA} {hi : Int32} (h : MO μ r A b) (hb : b < 900000) (h1 : 1 ≤ l) (hl : l ≤ 3) (hle : ¬ hi < nI l) (hd : 1 ≤ nt (A 1000)) : ∃ μ', L_X3_makeTotalCycles_2 (n + 1) r hi (nI l) μ = L_X3_makeTotalCycles_2 n r hi (nI (l + 1)) μ' ∧ MO μ' r (sp_cyc A l) (b + 10) ∧ Fx (MR r) μ μ' := by
  have w := h.2.2.1
  obtain ⟨μ1, e1, m1, f1⟩ := x3_roll h hl
  have r1 : ∀ j, j < 1003 → sp_roll l 0 (nt (A 5)) A j = A j := fun j hj => roll_o _ _ _ _ (by omega) (by omega) w
  obtain ⟨μ2, e2, m2, f2⟩ := x3_ptot m1 (by omega) hl
  have r2 : ∀ j, j < 1003 → sp_ptot (sp_roll l 0 (nt (A 5)) A) l j = A j := fun j hj => by rw [ptot_o (by omega), r1 j hj]
  obtain ⟨μ3, e3, m3, f3⟩ := x3_psum m2 (by omega) hl (by rw [r2 1000 (by decide)]; exact hd)
  have r3 : ∀ j, j < 1003 → sp_psum (sp_ptot (sp_roll l 0 (nt (A 5)) A) l) l j = A j := fun j hj => by rw [psum_o (by omega) (by omega), r2 j hj]
  obtain ⟨μ4, e4, m4, f4⟩ := x3_clr m3 hl
  rw [r3 6 (by decide)] at m4
  have g := m4.2.1.2.2.2.2.2.1 l h1 hl
  have s0 := h.1
  have s1 := m1.1
  have s2 := m2.1
  have s3 := m3.1
  have s4 := m4.1
  have m5 := MO.grp (v := gI μ4 (r + 24) l + nI 1) m4 h1 hl
  refine ⟨stI μ4 (r + 24) l (gI μ4 (r + 24) l + nI 1), ?_, ?_, ((f1.trans f2).trans (f3.trans f4)).trans (Fx.stI ⟨by omega, by omega⟩)⟩
  · simp (disch := first | assumption | omega) only [q_bl, q_baT, q_bi, q_ba, q_pr, q_ob, q_iT, q_iN, q_it, q_if, q_of, nI_add, pk_mul, pk_sub, nI_leI, nI_ltI, nI_eq, nI_clamp, nI_lt0, nI_eqm, m1_eq, true_or, or_true, not_false_eq_true, m1_lt, m1_nlt, m1_le, m1_nle, b01, b011, q_em, q_m1, n_0, n_1, n_2, n_3, n_4, n_5, n_6, n_7, n_8, n_9, n_10, n_11, n_12, n_14, n_15, n_16, n_20, n_24, n_25, n_32, n_36, n_40, n_41, n_42, n_43, n_45, n_46, n_48, n_57, n_59, n_60, n_73, n_76, n_97, n_99, n_100, n_106, n_109, n_120, n_122, n_136, n_160, n_176, n_200, n_255, n_800, n_1000, n_1001, n_1002, n_1003, n_1006, n_1012, n_1018, n_1019, n_1020, n_1100, n_1140, n_4800, n_4920, n_5940, n_6740, n_20220, q_kI, q_lI, q_nI, q_rI, q_iI, q_jI, q_dI, q_kJ, q_lJ, q_nJ, q_rJ, q_iJ, q_jJ, q_dJ, q_kC, q_lC, q_nC, q_rC, q_jC, q_dC, q_kF, q_lF, q_nF, q_rF, q_jF, q_dF, q_us, q_un, q_ua, L_X3_makeTotalCycles_2, B_X3_makeTotalCycles_2, s0.k0, s1.k0, s2.k0, s3.k0, s4.k0, s4.r5, s4.k24, s4.l24, e1, e2, e3, e4]
  · rw [g] at m5 ⊢
    rw [sp_cyc_eq]
    exact ⟨m5.1, m5.2.1, m5.2.2.1, m5.2.2.2.up (by omega)⟩
theorem l_cycs {r hi : Nat} (hhi : hi ≤ 3) : ∀ (m n l b : Nat) (μ : Mem) (A : SA), m < n → MO μ r A b → b + 10 * m < 900000 → 1 ≤ l → l + m = hi + 1 → (0 < m → 1 ≤ nt (A 1000)) → ∃ μ', L_X3_makeTotalCycles_2 n r (nI hi) (nI l) μ = some μ' ∧ MO μ' r (sp_cycs l m A) (b + 10 * m) ∧ Fx (MR r) μ μ' := by
  intro m
  induction m with
  | zero =>
    intro n l b μ A hn h hb h1 he hd
    obtain ⟨n, rfl⟩ : ∃ k, n = k + 1 := ⟨n - 1, by omega⟩
    exact ⟨μ, by simp (disch := first | assumption | omega) only [q_bl, q_baT, q_bi, q_ba, q_pr, q_ob, q_iT, q_iN, q_it, q_if, q_of, nI_add, pk_mul, pk_sub, nI_leI, nI_ltI, nI_eq, nI_clamp, nI_lt0, nI_eqm, m1_eq, true_or, or_true, not_false_eq_true, m1_lt, m1_nlt, m1_le, m1_nle, b01, b011, q_em, q_m1, n_0, n_1, n_2, n_3, n_4, n_5, n_6, n_7, n_8, n_9, n_10, n_11, n_12, n_14, n_15, n_16, n_20, n_24, n_25, n_32, n_36, n_40, n_41, n_42, n_43, n_45, n_46, n_48, n_57, n_59, n_60, n_73, n_76, n_97, n_99, n_100, n_106, n_109, n_120, n_122, n_136, n_160, n_176, n_200, n_255, n_800, n_1000, n_1001, n_1002, n_1003, n_1006, n_1012, n_1018, n_1019, n_1020, n_1100, n_1140, n_4800, n_4920, n_5940, n_6740, n_20220, q_kI, q_lI, q_nI, q_rI, q_iI, q_jI, q_dI, q_kJ, q_lJ, q_nJ, q_rJ, q_iJ, q_jJ, q_dJ, q_kC, q_lC, q_nC, q_rC, q_jC, q_dC, q_kF, q_lF, q_nF, q_rF, q_jF, q_dF, q_us, q_un, q_ua, L_X3_makeTotalCycles_2, B_X3_makeTotalCycles_2], h, Fx.same⟩
  | succ m ih =>
    intro n l b μ A hn h hb h1 he hd
    obtain ⟨n, rfl⟩ : ∃ k, n = k + 1 := ⟨n - 1, by omega⟩
    obtain ⟨μ1, e1, m1, f1⟩ := x3_cyc (n := n) (hi := nI hi) h (by omega) h1 (by omega) (nI_nlt (by omega) (by omega)) (hd (by omega))
    obtain ⟨μ2, e2, m2, f2⟩ := ih n (l + 1) (b + 10) μ1 _ (by omega) m1 (by omega) (by omega) (by omega) (fun _ => by rw [cyc_o h.2.2.1 h1 (by decide)]; exact hd (by omega))
    refine ⟨μ2, by rw [e1, e2], ?_, f1.trans f2⟩
    rw [show b + 10 * (m + 1) = b + 10 + 10 * m from by omega]
    exact m2
theorem cycs_o : ∀ (m l : Nat) (A : SA) (i : Nat), WB A → 1 ≤ l → i < 1003 → sp_cycs l m A i = A i := by
  intro m
  induction m with
  | zero => intro l A i _ _ _; rfl
  | succ m ih =>
    intro l A i w h1 hi
    unfold sp_cycs
    rw [ih (l + 1) _ i (w.cg (fun j hj => cyc_o w h1 (by omega))) (by omega) hi, cyc_o w h1 hi]
theorem x3_cycs {μ : Mem} {r b hi : Nat} {A : SA} (h : MO μ r A b) (hb : b < 800000) (hhi : hi ≤ 3) (hd : 0 < hi → 1 ≤ nt (A 1000)) : ∃ μ', F_X3_makeTotalCycles r (nI hi) μ = some μ' ∧ MO μ' r (sp_cycs 1 hi A) (b + 30) ∧ Fx (MR r) μ μ' := by
  obtain ⟨μ', e, m, f⟩ := l_cycs hhi hi FU 1 b μ A (FU_gt (by omega)) h (by omega) (by decide) (by omega) hd
  exact ⟨μ', by simp (disch := first | assumption | omega) only [q_bl, q_baT, q_bi, q_ba, q_pr, q_ob, q_iT, q_iN, q_it, q_if, q_of, nI_add, pk_mul, pk_sub, nI_leI, nI_ltI, nI_eq, nI_clamp, nI_lt0, nI_eqm, m1_eq, true_or, or_true, not_false_eq_true, m1_lt, m1_nlt, m1_le, m1_nle, b01, b011, q_em, q_m1, n_0, n_1, n_2, n_3, n_4, n_5, n_6, n_7, n_8, n_9, n_10, n_11, n_12, n_14, n_15, n_16, n_20, n_24, n_25, n_32, n_36, n_40, n_41, n_42, n_43, n_45, n_46, n_48, n_57, n_59, n_60, n_73, n_76, n_97, n_99, n_100, n_106, n_109, n_120, n_122, n_136, n_160, n_176, n_200, n_255, n_800, n_1000, n_1001, n_1002, n_1003, n_1006, n_1012, n_1018, n_1019, n_1020, n_1100, n_1140, n_4800, n_4920, n_5940, n_6740, n_20220, q_kI, q_lI, q_nI, q_rI, q_iI, q_jI, q_dI, q_kJ, q_lJ, q_nJ, q_rJ, q_iJ, q_jJ, q_dJ, q_kC, q_lC, q_nC, q_rC, q_jC, q_dC, q_kF, q_lF, q_nF, q_rF, q_jF, q_dF, q_us, q_un, q_ua, F_X3_makeTotalCycles, e], ⟨m.1, m.2.1, m.2.2.1, m.2.2.2.up (by omega)⟩, f⟩
/-- how far the machine is -/
theorem MO.f10 {μ : Mem} {r b n : Nat} {A : SA} (h : MO μ r A b) (hn : n ≤ nt (A 8)) : MO (stI μ r 10 (nI n)) r (ua A 1000 (nI n)) b := by
  obtain ⟨s, hr, w, m1, m2, m3, m4, m5, m6, m7, m8⟩ := h
  have e : ∀ i, ¬ i = 1000 → ua A 1000 (nI n) i = A i := fun i hi => ua_n hi
  have eI : ∀ q, ¬ q = r → gI (stI μ r 10 (nI n)) q = gI μ q := fun q hq => by rw [q_iI, q_ua hq]
  have hf := hr.2.2.2.2.2.2.2.2
  refine ⟨s.fx (P := MR r) (Fx.stI ⟨by omega, by omega⟩), ⟨hr.1.cg w (fun q _ _ => eI q (by omega)) (fun i hi => e i (by omega)), hr.2.1.cg w (eI _ (by omega)) (eI _ (by omega)) (fun i hi => e i (by omega)), hr.2.2.1.cg (eI _ (by omega)) (fun j _ => e _ (by omega)), hr.2.2.2.1.cg (eI _ (by omega)) (fun j _ => e _ (by omega)), hr.2.2.2.2.1.cg (eI _ (by omega)) (e _ (by omega)), hr.2.2.2.2.2.1.cg (eI _ (by omega)) (fun l _ _ => e _ (by omega)), hr.2.2.2.2.2.2.1.cg (eI _ (by omega)) (eI _ (by omega)) (eI _ (by omega)) (fun i _ _ _ => e i (by omega)), hr.2.2.2.2.2.2.2.1.cg (eI _ (by omega)) (eI _ (by omega)) (e _ (by omega)) (fun i _ _ => e i (by omega)), ?_, ?_, ?_⟩, w.cg (fun i hi => e i (by omega)), ?_⟩
  · rw [q_iI, q_un (by omega), e 1019 (by omega)]; exact hf.1
  · rw [q_iI, q_us, ua_s]
  · rw [q_iI, q_un (by omega), e 1001 (by omega)]; exact hf.2.2
  · unfold WM
    rw [e 1001 (by omega), e 1002 (by omega), e 1 (by omega), e 8 (by omega), e 1018 (by omega), e 1019 (by omega), ua_s]
    exact ⟨⟨n, rfl, by omega, hn⟩, m2, m3, fun j hj => by rw [e _ (by omega)]; exact m4 j hj, fun j hj => by rw [e _ (by omega)]; exact m5 j hj, m6, m7, fun i q a1 a2 a3 => by rw [e _ (by omega)]; exact m8 i q a1 a2 a3⟩
theorem MO.f11 {μ : Mem} {r b : Nat} {A : SA} (h : MO μ r A b) : MO (stI μ r 11 (nI 1)) r (ua A 1001 (nI 1)) b := by
  obtain ⟨s, hr, w, m1, m2, m3, m4, m5, m6, m7, m8⟩ := h
  have e : ∀ i, ¬ i = 1001 → ua A 1001 (nI 1) i = A i := fun i hi => ua_n hi
  have eI : ∀ q, ¬ q = r → gI (stI μ r 11 (nI 1)) q = gI μ q := fun q hq => by rw [q_iI, q_ua hq]
  have hf := hr.2.2.2.2.2.2.2.2
  refine ⟨s.fx (P := MR r) (Fx.stI ⟨by omega, by omega⟩), ⟨hr.1.cg w (fun q _ _ => eI q (by omega)) (fun i hi => e i (by omega)), hr.2.1.cg w (eI _ (by omega)) (eI _ (by omega)) (fun i hi => e i (by omega)), hr.2.2.1.cg (eI _ (by omega)) (fun j _ => e _ (by omega)), hr.2.2.2.1.cg (eI _ (by omega)) (fun j _ => e _ (by omega)), hr.2.2.2.2.1.cg (eI _ (by omega)) (e _ (by omega)), hr.2.2.2.2.2.1.cg (eI _ (by omega)) (fun l _ _ => e _ (by omega)), hr.2.2.2.2.2.2.1.cg (eI _ (by omega)) (eI _ (by omega)) (eI _ (by omega)) (fun i _ _ _ => e i (by omega)), hr.2.2.2.2.2.2.2.1.cg (eI _ (by omega)) (eI _ (by omega)) (e _ (by omega)) (fun i _ _ => e i (by omega)), ?_, ?_, ?_⟩, w.cg (fun i hi => e i (by omega)), ?_⟩
  · rw [q_iI, q_un (by omega), e 1019 (by omega)]; exact hf.1
  · rw [q_iI, q_un (by omega), e 1000 (by omega)]; exact hf.2.1
  · rw [q_iI, q_us, ua_s]
  · unfold WM
    rw [e 1000 (by omega), e 1002 (by omega), e 1 (by omega), e 8 (by omega), e 1018 (by omega), e 1019 (by omega), ua_s]
    exact ⟨m1, ⟨1, rfl, by omega, by omega⟩, m3, fun j hj => by rw [e _ (by omega)]; exact m4 j hj, fun j hj => by rw [e _ (by omega)]; exact m5 j hj, m6, m7, fun i q a1 a2 a3 => by rw [e _ (by omega)]; exact m8 i q a1 a2 a3⟩
theorem brk_le {A : SA} {card : Nat} : ∀ l, brk A card l ≤ l := by
  intro l
  induction l with
  | zero => exact Nat.le_refl _
  | succ l ih => unfold brk; split <;> omega
theorem sp_brk_le {A : SA} {card : Nat} : sp_brk A card ≤ 3 := by
  unfold sp_brk; split
  · omega
  · exact brk_le 3
theorem sp_brk_0 {A : SA} {card : Nat} (h : 0 < sp_brk A card) : 1 ≤ card := by
  unfold sp_brk at h; split at h <;> omega
theorem cnt_o {card : Nat} : ∀ (m k : Nat) (A : SA) (i : Nat), ¬ (1006 ≤ i ∧ i < 1018) → k + m ≤ 6 → sp_cnt card k m A i = A i := by
  intro m
  induction m with
  | zero => intro k A i _ _; rfl
  | succ m ih =>
    intro k A i hi hk
    unfold sp_cnt
    rw [ih (k + 1) _ i hi (by omega)]
    split
    · exact sp_add_at (by omega) (by omega)
    · rfl
theorem det_o {A : SA} {card i : Nat} (h : i < 1018 ∨ i = 1019 ∨ 5940 ≤ i) : sp_det A card i = A i := by
  unfold sp_det
  split
  · rfl
  · rcases h with h | rfl | h
    · exact endl_lo h
    · exact endl_19
    · exact endl_hi h
theorem sp_proc_eq (A : SA) : sp_proc A = ua (sp_det (sp_cnt (nt (A 1000)) 0 (nt (A 2)) (sp_sel (sp_cycs 1 (sp_brk A (nt (A 1000))) A) (nt (A 1000)))) (nt (A 1000))) 1000 (nI (nt (A 1000) + 1)) := rfl
theorem proc_o {A : SA} {i : Nat} (w : WB A) (h : i < 1002) (h0 : ¬ i = 1000) : sp_proc A i = A i := by
  have c2 := w.c2.2
  rw [sp_proc_eq, ua_n h0, det_o (by omega), cnt_o _ _ _ _ (by omega) (by omega)]
  show sp_sel _ _ i = _
  unfold sp_sel
  rw [ua_n (by omega), cycs_o _ _ _ _ w (by decide) (by omega)]
theorem proc_0 {A : SA} : sp_proc A 1000 = nI (nt (A 1000) + 1) := ua_s _ _ _
theorem x3_proc {μ : Mem} {r b : Nat} {A : SA} (h : MO μ r A b) (hb : b < 700000) (hc : nt (A 1000) < nt (A 8)) : ∃ μ', F_X3_processCard r μ = some μ' ∧ MO μ' r (sp_proc A) (b + 40) ∧ Fx (MR r) μ μ' := by
  have h' := h
  obtain ⟨s, hr, w, m⟩ := h'
  have c8 := w.c8.2
  have c2 := w.c2.2
  have hda := m.1.ex (by omega)
  have g10 : gI μ r 10 = nI (nt (A 1000)) := hr.2.2.2.2.2.2.2.2.2.1.trans hda.1
  have eb := x3_break s hr.bd w hc
  obtain ⟨μ1, e1, m1, f1⟩ := x3_cycs h (by omega) (sp_brk_le (A := A) (card := nt (A 1000))) (fun q => sp_brk_0 q)
  have r1 : ∀ j, j < 1003 → sp_cycs 1 (sp_brk A (nt (A 1000))) A j = A j := fun j hj => cycs_o _ _ _ _ w (by decide) hj
  obtain ⟨μ2, e2, m2, f2⟩ := x3_sel (card := nt (A 1000)) m1 (by rw [r1 8 (by decide)]; exact hc)
  have r2 : ∀ j, j < 1002 → sp_sel (sp_cycs 1 (sp_brk A (nt (A 1000))) A) (nt (A 1000)) j = A j := fun j hj => by unfold sp_sel; rw [ua_n (by omega), r1 j (by omega)]
  obtain ⟨μ3, e3, m3, f3⟩ := x3_cnt (card := nt (A 1000)) m2 (by rw [r2 8 (by decide)]; exact hc)
  rw [r2 2 (by decide)] at m3
  have r3 : ∀ j, j < 1002 → sp_cnt (nt (A 1000)) 0 (nt (A 2)) (sp_sel (sp_cycs 1 (sp_brk A (nt (A 1000))) A) (nt (A 1000))) j = A j := fun j hj => by rw [cnt_o _ _ _ _ (by omega) (by omega), r2 j hj]
  obtain ⟨μ4, e4, m4, f4⟩ := x3_det (card := nt (A 1000)) m3 (by omega) (by rw [r3 8 (by decide)]; exact hc)
  have r4 : ∀ j, j < 1002 → sp_det (sp_cnt (nt (A 1000)) 0 (nt (A 2)) (sp_sel (sp_cycs 1 (sp_brk A (nt (A 1000))) A) (nt (A 1000)))) (nt (A 1000)) j = A j := fun j hj => by rw [det_o (by omega), r3 j hj]
  have g10' : gI μ4 r 10 = nI (nt (A 1000)) := by
    have := m4.2.1.2.2.2.2.2.2.2.2.2.1
    rw [r4 1000 (by decide), hda.1] at this; exact this
  have m5 := MO.f10 (n := nt (A 1000) + 1) m4 (by rw [r4 8 (by decide)]; omega)
  have s1 := m1.1
  have s2 := m2.1
  have s3 := m3.1
  have s4 := m4.1
  refine ⟨stI μ4 r 10 (nI (nt (A 1000) + 1)), ?_, ?_, ((f1.trans f2).trans (f3.trans f4)).trans (Fx.stI ⟨by omega, by omega⟩)⟩
  · simp (disch := first | assumption | omega) only [q_bl, q_baT, q_bi, q_ba, q_pr, q_ob, q_iT, q_iN, q_it, q_if, q_of, nI_add, pk_mul, pk_sub, nI_leI, nI_ltI, nI_eq, nI_clamp, nI_lt0, nI_eqm, m1_eq, true_or, or_true, not_false_eq_true, m1_lt, m1_nlt, m1_le, m1_nle, b01, b011, q_em, q_m1, n_0, n_1, n_2, n_3, n_4, n_5, n_6, n_7, n_8, n_9, n_10, n_11, n_12, n_14, n_15, n_16, n_20, n_24, n_25, n_32, n_36, n_40, n_41, n_42, n_43, n_45, n_46, n_48, n_57, n_59, n_60, n_73, n_76, n_97, n_99, n_100, n_106, n_109, n_120, n_122, n_136, n_160, n_176, n_200, n_255, n_800, n_1000, n_1001, n_1002, n_1003, n_1006, n_1012, n_1018, n_1019, n_1020, n_1100, n_1140, n_4800, n_4920, n_5940, n_6740, n_20220, q_kI, q_lI, q_nI, q_rI, q_iI, q_jI, q_dI, q_kJ, q_lJ, q_nJ, q_rJ, q_iJ, q_jJ, q_dJ, q_kC, q_lC, q_nC, q_rC, q_jC, q_dC, q_kF, q_lF, q_nF, q_rF, q_jF, q_dF, q_us, q_un, q_ua, F_X3_processCard, s.k0, s.r1, s.k19, g10, hr.n8 w, eb, e1, e2, e3, e4, s1.k0, s2.k0, s3.k0, s4.k0, g10']
  · exact ⟨m5.1, m5.2.1, m5.2.2.1, m5.2.2.2.up (by omega)⟩
theorem x3_tot {μ : Mem} {r b : Nat} {A : SA} (h : MO μ r A b) (hb : b < 700000) : ∃ μ', F_X3_makeFinalTotals r μ = some μ' ∧ MO μ' r (sp_tot A) (b + 40) ∧ Fx (MR r) μ μ' := by
  have h' := h
  obtain ⟨s, hr, w, m⟩ := h'
  have c8 := w.c8.2
  have hda := m.1.ex (by omega)
  have g10 : gI μ r 10 = nI (nt (A 1000)) := hr.2.2.2.2.2.2.2.2.2.1.trans hda.1
  unfold sp_tot
  by_cases h0 : nt (A 1000) = 0
  · rw [if_pos h0]
    have m5 := MO.f11 h
    refine ⟨_, ?_, ⟨m5.1, m5.2.1, m5.2.2.1, m5.2.2.2.up (by omega)⟩, Fx.stI ⟨by omega, by omega⟩⟩
    simp (disch := first | assumption | omega) only [q_bl, q_baT, q_bi, q_ba, q_pr, q_ob, q_iT, q_iN, q_it, q_if, q_of, nI_add, pk_mul, pk_sub, nI_leI, nI_ltI, nI_eq, nI_clamp, nI_lt0, nI_eqm, m1_eq, true_or, or_true, not_false_eq_true, m1_lt, m1_nlt, m1_le, m1_nle, b01, b011, q_em, q_m1, n_0, n_1, n_2, n_3, n_4, n_5, n_6, n_7, n_8, n_9, n_10, n_11, n_12, n_14, n_15, n_16, n_20, n_24, n_25, n_32, n_36, n_40, n_41, n_42, n_43, n_45, n_46, n_48, n_57, n_59, n_60, n_73, n_76, n_97, n_99, n_100, n_106, n_109, n_120, n_122, n_136, n_160, n_176, n_200, n_255, n_800, n_1000, n_1001, n_1002, n_1003, n_1006, n_1012, n_1018, n_1019, n_1020, n_1100, n_1140, n_4800, n_4920, n_5940, n_6740, n_20220, q_kI, q_lI, q_nI, q_rI, q_iI, q_jI, q_dI, q_kJ, q_lJ, q_nJ, q_rJ, q_iJ, q_jJ, q_dJ, q_kC, q_lC, q_nC, q_rC, q_jC, q_dC, q_kF, q_lF, q_nF, q_rF, q_jF, q_dF, q_us, q_un, q_ua, F_X3_makeFinalTotals, s.k0, g10]
  · rw [if_neg h0]
    obtain ⟨μ1, e1, m1, f1⟩ := x3_cycs h (by omega) (show 3 ≤ 3 by decide) (fun _ => by omega)
    have m5 := MO.f11 m1
    have s1 := m1.1
    refine ⟨_, ?_, ⟨m5.1, m5.2.1, m5.2.2.1, m5.2.2.2.up (by omega)⟩, f1.trans (Fx.stI ⟨by omega, by omega⟩)⟩
    simp (disch := first | assumption | omega) only [q_bl, q_baT, q_bi, q_ba, q_pr, q_ob, q_iT, q_iN, q_it, q_if, q_of, nI_add, pk_mul, pk_sub, nI_leI, nI_ltI, nI_eq, nI_clamp, nI_lt0, nI_eqm, m1_eq, true_or, or_true, not_false_eq_true, m1_lt, m1_nlt, m1_le, m1_nle, b01, b011, q_em, q_m1, n_0, n_1, n_2, n_3, n_4, n_5, n_6, n_7, n_8, n_9, n_10, n_11, n_12, n_14, n_15, n_16, n_20, n_24, n_25, n_32, n_36, n_40, n_41, n_42, n_43, n_45, n_46, n_48, n_57, n_59, n_60, n_73, n_76, n_97, n_99, n_100, n_106, n_109, n_120, n_122, n_136, n_160, n_176, n_200, n_255, n_800, n_1000, n_1001, n_1002, n_1003, n_1006, n_1012, n_1018, n_1019, n_1020, n_1100, n_1140, n_4800, n_4920, n_5940, n_6740, n_20220, q_kI, q_lI, q_nI, q_rI, q_iI, q_jI, q_dI, q_kJ, q_lJ, q_nJ, q_rJ, q_iJ, q_jJ, q_dJ, q_kC, q_lC, q_nC, q_rC, q_jC, q_dC, q_kF, q_lF, q_nF, q_rF, q_jF, q_dF, q_us, q_un, q_ua, F_X3_makeFinalTotals, s.k0, g10, e1, s1.k0]
theorem procs_o : ∀ (m : Nat) (A : SA) (i : Nat), WB A → i < 1002 → ¬ i = 1000 → sp_procs m A i = A i := by
  intro m
  induction m with
  | zero => intro A i _ _ _; rfl
  | succ m ih =>
    intro A i w hi h0
    unfold sp_procs
    rw [ih _ i (w.cg (fun j hj => proc_o w (by omega) (by omega))) hi h0, proc_o w hi h0]
theorem l_comp {r : Nat} : ∀ (m n b : Nat) (μ : Mem) (A : SA), m < n → MO μ r A b → b + 40 * m < 600000 → nt (A 1000) + m = nt (A 8) → ∃ μ', L_X3_complete_5 n r (nI (nt (A 1000))) μ = some μ' ∧ MO μ' r (sp_tot (sp_procs m A)) (b + 40 * m + 40) ∧ Fx (MR r) μ μ' := by
  intro m
  induction m with
  | zero =>
    intro n b μ A hn h hb he
    obtain ⟨n, rfl⟩ : ∃ k, n = k + 1 := ⟨n - 1, by omega⟩
    have s := h.1
    have c8 := h.2.2.1.c8.2
    obtain ⟨μ1, e1, m1, f1⟩ := x3_tot h (by omega)
    exact ⟨μ1, by simp (disch := first | assumption | omega) only [q_bl, q_baT, q_bi, q_ba, q_pr, q_ob, q_iT, q_iN, q_it, q_if, q_of, nI_add, pk_mul, pk_sub, nI_leI, nI_ltI, nI_eq, nI_clamp, nI_lt0, nI_eqm, m1_eq, true_or, or_true, not_false_eq_true, m1_lt, m1_nlt, m1_le, m1_nle, b01, b011, q_em, q_m1, n_0, n_1, n_2, n_3, n_4, n_5, n_6, n_7, n_8, n_9, n_10, n_11, n_12, n_14, n_15, n_16, n_20, n_24, n_25, n_32, n_36, n_40, n_41, n_42, n_43, n_45, n_46, n_48, n_57, n_59, n_60, n_73, n_76, n_97, n_99, n_100, n_106, n_109, n_120, n_122, n_136, n_160, n_176, n_200, n_255, n_800, n_1000, n_1001, n_1002, n_1003, n_1006, n_1012, n_1018, n_1019, n_1020, n_1100, n_1140, n_4800, n_4920, n_5940, n_6740, n_20220, q_kI, q_lI, q_nI, q_rI, q_iI, q_jI, q_dI, q_kJ, q_lJ, q_nJ, q_rJ, q_iJ, q_jJ, q_dJ, q_kC, q_lC, q_nC, q_rC, q_jC, q_dC, q_kF, q_lF, q_nF, q_rF, q_jF, q_dF, q_us, q_un, q_ua, L_X3_complete_5, B_X3_complete_5, s.k0, s.r1, s.k19, h.2.1.n8 h.2.2.1, e1], m1, f1⟩
  | succ m ih =>
    intro n b μ A hn h hb he
    obtain ⟨n, rfl⟩ : ∃ k, n = k + 1 := ⟨n - 1, by omega⟩
    have s := h.1
    have w := h.2.2.1
    have c8 := w.c8.2
    obtain ⟨μ1, e1, m1, f1⟩ := x3_proc h (by omega) (by omega)
    have e0 : nt (sp_proc A 1000) = nt (A 1000) + 1 := by rw [proc_0, nt_nI (by omega)]
    obtain ⟨μ2, e2, m2, f2⟩ := ih n (b + 40) μ1 _ (by omega) m1 (by omega) (by rw [e0, proc_o w (by decide) (by decide)]; omega)
    rw [e0] at e2
    refine ⟨μ2, by simp (disch := first | assumption | omega) only [q_bl, q_baT, q_bi, q_ba, q_pr, q_ob, q_iT, q_iN, q_it, q_if, q_of, nI_add, pk_mul, pk_sub, nI_leI, nI_ltI, nI_eq, nI_clamp, nI_lt0, nI_eqm, m1_eq, true_or, or_true, not_false_eq_true, m1_lt, m1_nlt, m1_le, m1_nle, b01, b011, q_em, q_m1, n_0, n_1, n_2, n_3, n_4, n_5, n_6, n_7, n_8, n_9, n_10, n_11, n_12, n_14, n_15, n_16, n_20, n_24, n_25, n_32, n_36, n_40, n_41, n_42, n_43, n_45, n_46, n_48, n_57, n_59, n_60, n_73, n_76, n_97, n_99, n_100, n_106, n_109, n_120, n_122, n_136, n_160, n_176, n_200, n_255, n_800, n_1000, n_1001, n_1002, n_1003, n_1006, n_1012, n_1018, n_1019, n_1020, n_1100, n_1140, n_4800, n_4920, n_5940, n_6740, n_20220, q_kI, q_lI, q_nI, q_rI, q_iI, q_jI, q_dI, q_kJ, q_lJ, q_nJ, q_rJ, q_iJ, q_jJ, q_dJ, q_kC, q_lC, q_nC, q_rC, q_jC, q_dC, q_kF, q_lF, q_nF, q_rF, q_jF, q_dF, q_us, q_un, q_ua, L_X3_complete_5, B_X3_complete_5, s.k0, s.r1, s.k19, h.2.1.n8 w, e1, e2], ?_, f1.trans f2⟩
    rw [show b + 40 * (m + 1) + 40 = b + 40 + 40 * m + 40 from by omega]
    exact m2
theorem x3_comp {μ : Mem} {r b : Nat} {A : SA} (h : MO μ r A b) (hb : b < 500000) : ∃ μ', F_X3_complete r μ = some μ' ∧ MO μ' r (sp_fin A) (b + 2000) ∧ Fx (MR r) μ μ' := by
  have s := h.1
  have w := h.2.2.1
  have c8 := w.c8.2
  have hda := h.2.2.2.1.ex (by omega)
  have g10 : gI μ r 10 = nI (nt (A 1000)) := h.2.1.2.2.2.2.2.2.2.2.2.1.trans hda.1
  obtain ⟨μ1, e1, m1, f1⟩ := l_comp (nt (A 8) - nt (A 1000)) FU b μ A (FU_gt (by omega)) h (by omega) (by omega)
  exact ⟨μ1, by simp (disch := first | assumption | omega) only [q_bl, q_baT, q_bi, q_ba, q_pr, q_ob, q_iT, q_iN, q_it, q_if, q_of, nI_add, pk_mul, pk_sub, nI_leI, nI_ltI, nI_eq, nI_clamp, nI_lt0, nI_eqm, m1_eq, true_or, or_true, not_false_eq_true, m1_lt, m1_nlt, m1_le, m1_nle, b01, b011, q_em, q_m1, n_0, n_1, n_2, n_3, n_4, n_5, n_6, n_7, n_8, n_9, n_10, n_11, n_12, n_14, n_15, n_16, n_20, n_24, n_25, n_32, n_36, n_40, n_41, n_42, n_43, n_45, n_46, n_48, n_57, n_59, n_60, n_73, n_76, n_97, n_99, n_100, n_106, n_109, n_120, n_122, n_136, n_160, n_176, n_200, n_255, n_800, n_1000, n_1001, n_1002, n_1003, n_1006, n_1012, n_1018, n_1019, n_1020, n_1100, n_1140, n_4800, n_4920, n_5940, n_6740, n_20220, q_kI, q_lI, q_nI, q_rI, q_iI, q_jI, q_dI, q_kJ, q_lJ, q_nJ, q_rJ, q_iJ, q_jJ, q_dJ, q_kC, q_lC, q_nC, q_rC, q_jC, q_dC, q_kF, q_lF, q_nF, q_rF, q_jF, q_dF, q_us, q_un, q_ua, F_X3_complete, s.k0, g10, e1], ⟨m1.1, m1.2.1, m1.2.2.1, m1.2.2.2.up (by omega)⟩, f1⟩

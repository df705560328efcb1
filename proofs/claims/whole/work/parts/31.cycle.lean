/-! LAYER 3: the class's machine: cycles and cards -/
theorem lc_pf {A : SA} {fm col : Nat} (w : WB A) (hd2 : nt (A 1000) - 1 < nt (A 8)) (hfm : 1 ≤ fm) : ∀ (m c : Nat) (cd : SA), fm ≤ c → c + m ≤ 21 → (∀ k, lc (cd k)) → ∀ k, lc (sp_pf A fm col c m cd k) := by
  intro m
  induction m with
  | zero => intro c cd _ _ h; exact h
  | succ m ih =>
    intro c cd h1 h2 h
    unfold sp_pf
    refine ih (c + 1) _ (by omega) (by omega) (fun k => ?_)
    unfold pu
    split
    · unfold ua
      split
      · exact w.lc hd2 (by omega) (by omega)
      · exact h k
    · exact h k
theorem lc_pc {neg : Bool} {col w : Nat} : ∀ (m left : Nat) (cd : SA), (∀ k, lc (cd k)) → ∀ k, lc (sp_pc neg col w m left cd k) := by
  intro m
  induction m with
  | zero => intro left cd h; exact h
  | succ m ih =>
    intro left cd h
    unfold sp_pc
    refine ih _ _ (fun k => ?_)
    unfold pu
    split
    · unfold ua
      split
      · split
        · exact Or.inr (Or.inr (Or.inr ⟨left % 10, by omega, by rw [Nat.add_comm]⟩))
        · exact Or.inr (Or.inr (Or.inl ⟨left % 10, by omega, rfl⟩))
      · exact h k
    · exact h k
theorem lc_puns {A : SA} {l : Nat} (w : WB A) (hd2 : nt (A 1000) - 1 < nt (A 8)) : ∀ (m k : Nat) (cd : SA), k + m = nt (A 7) → (∀ j, lc (cd j)) → ∀ j, lc (sp_puns A l k m cd j) := by
  intro m
  induction m with
  | zero => intro k cd _ h; exact h
  | succ m ih =>
    intro k cd he h
    unfold sp_puns
    refine ih (k + 1) _ (by omega) ?_
    split
    · unfold sp_p1
      have c := w.pun (show k < nt (A 7) by omega)
      split
      · rename_i h8
        have hf : nt (A (176 + 3 * k + 1)) < nt (A 0) := by rcases c.2.2.2.2.2.1 with e | e <;> omega
        have q0 := w.fld hf
        exact lc_pf w hd2 q0.2.2.1 _ _ cd (Nat.le_refl _) (by omega) h
      · exact lc_pc _ _ cd h
    · exact h
theorem ends_o {A : SA} {cd : SA} {i : Nat} (h : ¬ i = 1019) (h2 : i < 5940 + 20 * nt (A 1019) ∨ 5940 + 20 * nt (A 1019) + 20 ≤ i) : sp_ends A cd i = A i := by
  unfold sp_ends; rw [if_neg h, if_neg (by omega)]
theorem ends_19 {A : SA} {cd : SA} : sp_ends A cd 1019 = A 1019 + nI 1 := by unfold sp_ends; rw [if_pos rfl]
/-- the beginning of a card -/
theorem UP.start {μ : Mem} {r b : Nat} {A : SA} (h : MO μ r A b) (hb : b < 1000000) : ∃ μ', F_X2_addCard (r + 29) (stI μ r 9 (nI (nt (A 1019) + 1))) = some (cn (nt (A 1019)), μ') ∧ UP (gI μ') r A (nt (A 1019)) bcd ∧ Fx (UR r) μ μ' ∧ gI μ' r 9 = nI (nt (A 1019) + 1) ∧ gI μ' r 10 = A 1000 ∧ gI μ' r 11 = A 1001 := by
  obtain ⟨s, hr, w, m⟩ := h
  have q := m.2.2.2.2.2.2.1.ex (by omega)
  have hu := hr.2.2.2.2.2.2.2.1
  have hf := hr.2.2.2.2.2.2.2.2
  have f0 : Fx (UR r) μ (stI μ r 9 (nI (nt (A 1019) + 1))) := Fx.stI (Or.inl rfl)
  have su : SD (stI μ r 9 (nI (nt (A 1019) + 1))) (r + 29) := s.su.fx f0
  by_cases hn : nt (A 1019) < 40
  · have hc : gI (stI μ r 9 (nI (nt (A 1019) + 1))) (r + 29) 1 = nI (nt (A 1019)) := by
      rw [q_iI, q_un (by omega), hu.1, Nat.min_eq_left (by omega)]
    have e := x2_add su hc hn
    have ec : cn (nt (A 1019)) = nI (nt (A 1019)) := by unfold cn; rw [if_pos hn]
    refine ⟨_, by rw [ec]; exact e, ⟨?_, fun i k hi k1 k2 => ?_, fun _ k k1 k2 => ?_⟩, f0.trans (Fx.trans (Fx.stI (Or.inr (Or.inl rfl))) (Fx.stF (Or.inr (Or.inr rfl)))), ?_, ?_, ?_⟩
    · rw [q_iF, if_neg (by omega), q_iI, q_us, Nat.min_eq_left (by omega)]
    · rw [q_iF, if_neg (by omega), q_iI, q_un (by omega), q_iI, q_un (by omega)]; exact hu.2 i k hi k1 k2
    · rw [q_iF, if_pos (by omega)]; rfl
    · rw [q_iF, if_neg (by omega), q_iI, q_un (by omega), q_iI, q_us]
    · rw [q_iF, if_neg (by omega), q_iI, q_un (by omega), q_iI, q_un (by omega)]; exact hf.2.1
    · rw [q_iF, if_neg (by omega), q_iI, q_un (by omega), q_iI, q_un (by omega)]; exact hf.2.2
  · have hc : gI (stI μ r 9 (nI (nt (A 1019) + 1))) (r + 29) 1 = nI 40 := by
      rw [q_iI, q_un (by omega), hu.1, Nat.min_eq_right (by omega)]
    have e := x2_addF su hc
    have ec : cn (nt (A 1019)) = -nI 1 := by unfold cn; rw [if_neg hn]
    refine ⟨_, by rw [ec]; exact e, ⟨?_, fun i k hi k1 k2 => ?_, fun h2 => absurd h2 hn⟩, f0, ?_, ?_, ?_⟩
    · rw [hc, Nat.min_eq_right (by omega)]
    · rw [q_iI, q_un (by omega)]; exact hu.2 i k hi k1 k2
    · rw [q_iI, q_us]
    · rw [q_iI, q_un (by omega)]; exact hf.2.1
    · rw [q_iI, q_un (by omega)]; exact hf.2.2
/-- the end of a card -/
theorem UP.fin {μ0 μ : Mem} {r b : Nat} {A : SA} {cd : SA} (h : MO μ0 r A b) (hb : b < 1000000) (f : Fx (UR r) μ0 μ) (k : UP (gI μ) r A (nt (A 1019)) cd) (h9 : gI μ r 9 = nI (nt (A 1019) + 1)) (h10 : gI μ r 10 = A 1000) (h11 : gI μ r 11 = A 1001) (hl : ∀ j, lc (cd j)) : MO μ r (sp_ends A cd) (b + 1) := by
  obtain ⟨s, hr, w, m⟩ := h
  have q := m.2.2.2.2.2.2.1.ex (by omega)
  have e : ∀ i, i < 5940 → ¬ i = 1019 → sp_ends A cd i = A i := fun i hi h1 => ends_o h1 (by omega)
  have eI : ∀ a, ¬ a = r → ¬ a = r + 29 → ¬ a = r + 30 → gI μ a = gI μ0 a := fun a a1 a2 a3 => f.I (fun q => by rcases q with q | q | q <;> contradiction)
  have h19 : sp_ends A cd 1019 = nI (nt (A 1019) + 1) := by
    rw [ends_19]; conv => lhs; rw [q.1]
    rw [nI_add]
  have hn : nt (sp_ends A cd 1019) = nt (A 1019) + 1 := by rw [h19, nt_nI (by omega)]
  have cell : ∀ i k, i < min (nt (A 1019) + 1) 40 → 1 ≤ k → k ≤ 20 → (i < min (nt (A 1019)) 40 ∧ sp_ends A cd (5940 + 20 * i + k - 1) = A (5940 + 20 * i + k - 1)) ∨ (i = nt (A 1019) ∧ i < 40 ∧ sp_ends A cd (5940 + 20 * i + k - 1) = cd (k - 1)) := by
    intro i k hi k1 k2
    by_cases hin : i < nt (A 1019)
    · exact Or.inl ⟨by omega, ends_o (by omega) (by omega)⟩
    · refine Or.inr ⟨by omega, by omega, ?_⟩
      have : i = nt (A 1019) := by omega
      subst this
      unfold sp_ends
      rw [if_neg (by omega), if_pos (by omega)]
      congr 1; omega
  refine ⟨s.fx f, ⟨hr.1.cg w (fun q _ _ => eI q (by omega) (by omega) (by omega)) (fun i hi => e i (by omega) (by omega)), hr.2.1.cg w (eI _ (by omega) (by omega) (by omega)) (eI _ (by omega) (by omega) (by omega)) (fun i hi => e i (by omega) (by omega)), hr.2.2.1.cg (eI _ (by omega) (by omega) (by omega)) (fun j _ => e _ (by omega) (by omega)), hr.2.2.2.1.cg (eI _ (by omega) (by omega) (by omega)) (fun j _ => e _ (by omega) (by omega)), hr.2.2.2.2.1.cg (eI _ (by omega) (by omega) (by omega)) (e _ (by omega) (by omega)), hr.2.2.2.2.2.1.cg (eI _ (by omega) (by omega) (by omega)) (fun l _ _ => e _ (by omega) (by omega)), hr.2.2.2.2.2.2.1.cg (eI _ (by omega) (by omega) (by omega)) (eI _ (by omega) (by omega) (by omega)) (eI _ (by omega) (by omega) (by omega)) (fun i _ h2 h3 => e i h2 h3), ?_, ?_⟩, w.cg (fun i hi => e i (by omega) (by omega)), ?_⟩
  · refine ⟨by rw [hn]; exact k.1, ?_⟩
    rw [hn]
    intro i j hi j1 j2
    rcases cell i j hi j1 j2 with ⟨c1, c2⟩ | ⟨c1, c0, c2⟩
    · rw [c2]; exact k.2.1 i j c1 j1 j2
    · rw [c2, c1]; exact k.2.2 (by omega) j j1 j2
  · exact ⟨by rw [h9, h19], by rw [h10, e _ (by omega) (by omega)], by rw [h11, e _ (by omega) (by omega)]⟩
  · obtain ⟨m1, m2, m3, m4, m5, m6, m7, m8⟩ := m
    unfold WM
    rw [e 1000 (by omega) (by omega), e 1001 (by omega) (by omega), e 1002 (by omega) (by omega), e 1 (by omega) (by omega), e 8 (by omega) (by omega), e 1018 (by omega) (by omega), hn]
    refine ⟨m1, m2, m3, fun j hj => by rw [e _ (by omega) (by omega)]; exact m4 j hj, fun j hj => by rw [e _ (by omega) (by omega)]; exact (m5 j hj).up (by omega), m6.up (by omega), ?_, fun i j hi j1 j2 => ?_⟩
    · rw [ends_19]; exact m7.suc
    · rcases cell i j hi j1 j2 with ⟨c1, c2⟩ | ⟨c1, c0, c2⟩
      · rw [c2]; exact m8 i j c1 j1 j2
      · rw [c2]; exact hl _
theorem x3_psum {μ : Mem} {r b l : Nat} {A : SA} (h : MO μ r A b) (hb : b < 1000000) (hl : l ≤ 3) (hd : 1 ≤ nt (A 1000)) : ∃ μ', F_X3_punchSummary r (nI l) μ = some μ' ∧ MO μ' r (sp_psum A l) (b + 1) ∧ Fx (MR r) μ μ' := by
  have h' := h
  obtain ⟨s, hr, w, m⟩ := h'
  have c7 := w.c7.2
  have c8 := w.c8.2
  have hda := m.1.ex (by omega)
  have h19 := m.2.2.2.2.2.2.1.ex (by omega)
  have hw : ∀ j, j < nt (A 7) → gI μ (r + 17) (j * 5 + 0) = A (176 + 3 * j) := fun j hj => (hr.1.2.2.2.2.2.2.2.1.2 j hj).1
  have hw2 : ∀ j, j < nt (A 7) → ∃ v, gI μ (r + 16 + 1) (j * 5 + 0) = nI v ∧ v < 100 := fun j hj => ⟨nt (A (176 + 3 * j)), (hw j hj).trans (w.pun hj).1, by have := (w.pun hj).2.2.2.1; omega⟩
  unfold sp_psum
  by_cases hx : hasl A 176 3 l (nt (A 7))
  · have hh := x6_has (v := l) s.st7 (hr.n7 w) (by omega) (show 0 < 5 by decide) (by omega) hw2 (by obtain ⟨k, k1, k2⟩ := hx; exact ⟨k, k1, (hw k k1).trans k2⟩)
    obtain ⟨μ1, e1, p1, f1, g9, g10, g11⟩ := UP.start h hb
    have eI : ∀ a, ¬ a = r → ¬ a = r + 29 → ¬ a = r + 30 → gI μ1 a = gI μ a := fun a a1 a2 a3 => f1.I (fun q => by rcases q with q | q | q <;> contradiction)
    have uq : UQ μ1 r A := ⟨s.fx f1, hr.bd.cg w (fun a h1 h2 => eI a (by omega) (by omega) (by omega)) (fun _ _ => rfl), hr.2.2.1.cg (eI _ (by omega) (by omega) (by omega)) (fun _ _ => rfl), w, g10⟩
    obtain ⟨μ2, e2, p2, f2⟩ := l_puns hl hd (by omega) hda.1 m.2.2.2.1 (nt (A 7)) FU 0 bcd μ1 (FU_gt (by omega)) (by omega) uq p1
    have er : gI μ2 r = gI μ1 r := f2.I (by omega)
    have f12 : Fx (UR r) μ μ2 := f1.trans (f2.mono (fun a ha => Or.inr (Or.inr ha)))
    have mf := UP.fin h hb f12 p2 (by rw [er]; exact g9) (by rw [er]; exact g10) (by rw [er]; exact g11) (lc_puns w (by omega) (nt (A 7)) 0 bcd (by omega) (fun _ => Or.inl rfl))
    have g0 : gI μ r 9 = nI (nt (A 1019)) := hr.2.2.2.2.2.2.2.2.1.trans h19.1
    refine ⟨μ2, by simp (disch := first | assumption | omega) only [q_bl, q_baT, q_bi, q_ba, q_pr, q_ob, q_iT, q_iN, q_it, q_if, q_of, nI_add, pk_mul, pk_sub, nI_leI, nI_ltI, nI_eq, nI_clamp, nI_lt0, nI_eqm, m1_eq, true_or, or_true, not_false_eq_true, m1_lt, m1_nlt, m1_le, m1_nle, b01, b011, q_em, q_m1, n_0, n_1, n_2, n_3, n_4, n_5, n_6, n_7, n_8, n_9, n_10, n_11, n_12, n_14, n_15, n_16, n_20, n_24, n_25, n_32, n_36, n_40, n_41, n_42, n_43, n_45, n_46, n_48, n_57, n_59, n_60, n_73, n_76, n_97, n_99, n_100, n_106, n_109, n_120, n_122, n_136, n_160, n_176, n_200, n_255, n_800, n_1000, n_1001, n_1002, n_1003, n_1006, n_1012, n_1018, n_1019, n_1020, n_1100, n_1140, n_4800, n_4920, n_5940, n_6740, n_20220, q_kI, q_lI, q_nI, q_rI, q_iI, q_jI, q_dI, q_kJ, q_lJ, q_nJ, q_rJ, q_iJ, q_jJ, q_dJ, q_kC, q_lC, q_nC, q_rC, q_jC, q_dC, q_kF, q_lF, q_nF, q_rF, q_jF, q_dF, q_us, q_un, q_ua, F_X3_punchSummary, s.k0, s.r0, s.k1, s.b7, s.k16, s.r8, s.k29, hh, g0, e1, e2], ?_, f12.mono (fun a ha => by rcases ha with q | q | q <;> exact ⟨by omega, by omega⟩)⟩
    rw [if_pos hx]; exact mf
  · have hh := x6_hasNo (v := l) s.st7 (hr.n7 w) (by omega) (show 0 < 5 by decide) (by omega) hw2 (fun k k1 k2 => hx ⟨k, k1, (hw k k1).symm.trans k2⟩)
    refine ⟨μ, by simp (disch := first | assumption | omega) only [q_bl, q_baT, q_bi, q_ba, q_pr, q_ob, q_iT, q_iN, q_it, q_if, q_of, nI_add, pk_mul, pk_sub, nI_leI, nI_ltI, nI_eq, nI_clamp, nI_lt0, nI_eqm, m1_eq, true_or, or_true, not_false_eq_true, m1_lt, m1_nlt, m1_le, m1_nle, b01, b011, q_em, q_m1, n_0, n_1, n_2, n_3, n_4, n_5, n_6, n_7, n_8, n_9, n_10, n_11, n_12, n_14, n_15, n_16, n_20, n_24, n_25, n_32, n_36, n_40, n_41, n_42, n_43, n_45, n_46, n_48, n_57, n_59, n_60, n_73, n_76, n_97, n_99, n_100, n_106, n_109, n_120, n_122, n_136, n_160, n_176, n_200, n_255, n_800, n_1000, n_1001, n_1002, n_1003, n_1006, n_1012, n_1018, n_1019, n_1020, n_1100, n_1140, n_4800, n_4920, n_5940, n_6740, n_20220, q_kI, q_lI, q_nI, q_rI, q_iI, q_jI, q_dI, q_kJ, q_lJ, q_nJ, q_rJ, q_iJ, q_jJ, q_dJ, q_kC, q_lC, q_nC, q_rC, q_jC, q_dC, q_kF, q_lF, q_nF, q_rF, q_jF, q_dF, q_us, q_un, q_ua, F_X3_punchSummary, s.k0, s.r0, s.k1, s.b7, s.k16, hh], ?_, Fx.same⟩
    rw [if_neg hx]; exact ⟨s, hr, w, m.up (by omega)⟩
-- what the steps leave
theorem roll_o {l : Nat} : ∀ (m k : Nat) (A : SA) (i : Nat), ¬ (1006 ≤ i ∧ i < 1018) → k + m ≤ nt (A 5) → WB A → sp_roll l k m A i = A i := by
  intro m
  induction m with
  | zero => intro k A i _ _ _; rfl
  | succ m ih =>
    intro k A i hi hk w
    have c2 := w.c2.2
    have c := w.rol (show k < nt (A 5) by omega)
    unfold sp_roll
    by_cases hx : A (136 + 3 * k) = nI l
    · rw [if_pos hx]
      have e : ∀ j, ¬ (1006 ≤ j ∧ j < 1018) → sp_add A (nt (A (136 + 3 * k + 2))) (A (1006 + nt (A (136 + 3 * k + 1)))) j = A j := fun j hj => sp_add_at (by omega) (by omega)
      rw [ih (k + 1) _ i hi (by rw [e 5 (by omega)]; omega) (w.cg (fun j hj => e j (by omega))), e i hi]
    · rw [if_neg hx]; exact ih (k + 1) A i hi (by omega) w
theorem ptot_o {A : SA} {l i : Nat} (h : i < 1018 ∨ i = 1019 ∨ 5940 ≤ i) : sp_ptot A l i = A i := by
  unfold sp_ptot
  split
  · rcases h with h | rfl | h
    · exact endl_lo h
    · exact endl_19
    · exact endl_hi h
  · rfl
theorem psum_o {A : SA} {l i : Nat} (h : i < 5940) (h1 : ¬ i = 1019) : sp_psum A l i = A i := by
  unfold sp_psum
  split
  · exact ends_o h1 (by omega)
  · rfl
theorem clear_o {l : Nat} : ∀ (m k : Nat) (A : SA) (i : Nat), ¬ (1006 ≤ i ∧ i < 1012) → k + m ≤ nt (A 6) → WB A → sp_clear l k m A i = A i := by
  intro m
  induction m with
  | zero => intro k A i _ _ _; rfl
  | succ m ih =>
    intro k A i hi hk w
    have c2 := w.c2.2
    have c := w.clr (show k < nt (A 6) by omega)
    unfold sp_clear
    by_cases hx : A (160 + 2 * k) = nI l
    · rw [if_pos hx]
      have e : ∀ j, ¬ (1006 ≤ j ∧ j < 1012) → ua A (1006 + nt (A (160 + 2 * k + 1))) (nI 0) j = A j := fun j hj => ua_n (by omega)
      rw [ih (k + 1) _ i hi (by rw [e 6 (by omega)]; omega) (w.cg (fun j hj => e j (by omega))), e i hi]
    · rw [if_neg hx]; exact ih (k + 1) A i hi (by omega) w
/-- a place of the groups is raised -/
theorem MO.grp {μ : Mem} {r b l : Nat} {A : SA} {v : Int32} (h : MO μ r A b) (h1 : 1 ≤ l) (h2 : l ≤ 3) : MO (stI μ (r + 24) l v) r (ua A (1003 + l - 1) v) b := by
  obtain ⟨s, hr, w, m1, m2, m3, m4, m5, m6, m7, m8⟩ := h
  have e : ∀ i, ¬ i = 1003 + l - 1 → ua A (1003 + l - 1) v i = A i := fun i hi => ua_n hi
  have eI : ∀ q, ¬ q = r + 24 → gI (stI μ (r + 24) l v) q = gI μ q := fun q hq => by rw [q_iI, q_ua hq]
  refine ⟨s.fx (P := MR r) (Fx.stI ⟨by omega, by omega⟩), ⟨hr.1.cg w (fun q _ _ => eI q (by omega)) (fun i hi => e i (by omega)), hr.2.1.cg w (eI _ (by omega)) (eI _ (by omega)) (fun i hi => e i (by omega)), hr.2.2.1.cg (eI _ (by omega)) (fun j _ => e _ (by omega)), hr.2.2.2.1.cg (eI _ (by omega)) (fun j _ => e _ (by omega)), hr.2.2.2.2.1.cg (eI _ (by omega)) (e _ (by omega)), fun j j1 j2 => ?_, hr.2.2.2.2.2.2.1.cg (eI _ (by omega)) (eI _ (by omega)) (eI _ (by omega)) (fun i _ _ _ => e i (by omega)), hr.2.2.2.2.2.2.2.1.cg (eI _ (by omega)) (eI _ (by omega)) (e _ (by omega)) (fun i _ _ => e i (by omega)), hr.2.2.2.2.2.2.2.2.cg (eI _ (by omega)) (e _ (by omega)) (e _ (by omega)) (e _ (by omega))⟩, w.cg (fun i hi => e i (by omega)), ?_⟩
  · rw [q_iI]
    by_cases hjk : j = l
    · subst hjk; rw [q_us, ua_s]
    · rw [q_un (by omega), e _ (by omega)]; exact hr.2.2.2.2.2.1 j j1 j2
  · unfold WM
    rw [e 1000 (by omega), e 1001 (by omega), e 1002 (by omega), e 1 (by omega), e 8 (by omega), e 1018 (by omega), e 1019 (by omega)]
    exact ⟨m1, m2, m3, fun j hj => by rw [e _ (by omega)]; exact m4 j hj, fun j hj => by rw [e _ (by omega)]; exact m5 j hj, m6, m7, fun i q a1 a2 a3 => by rw [e _ (by omega)]; exact m8 i q a1 a2 a3⟩

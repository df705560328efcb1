/-! LAYER 3: the class's reader: counters, punches, controls -/
section STN
variable {μ μ' μ1 : Mem} {d n lo p ls k c : Nat} {row : Int32} {b : Nat → Nat} {A : SA} {nc : Nat → Nat} {wn : Nat → Nat → List Nat} {g : GST}
theorem put_d {k t q : Nat} {v : Int32} (hB : CB μ d b n) (hk : k < 8) (ht : t = d + 5 + 1 + 2 * k) (hq : q < 5) (e : F_X6_put t row (nI q) v μ = some μ') : gI μ' d = gI μ d := by
  have st := hB.st hk
  obtain ⟨μ2, e2, f2⟩ := x6_putA (i := row) (v := v) (q := q) st (hB.2.2.2.2.1 k hk).2 hq
  rw [ht, show d + 5 + 1 + 2 * k = d + 6 + 2 * k from by omega, e2] at e
  cases e
  exact f2.I (by omega)
theorem gcook {i q : Nat} {v : Int32} (h : CR μ d b n lo g) (ha : HA g 7 c row) (hi : i = 176 + 3 * c + q) (hq : q < 3) : CR μ d b n lo (g_put i v g) := by
  obtain ⟨hB, hG⟩ := h
  refine ⟨hB, ?_⟩
  match g, hG, ha with
  | .inl e, hG, _ => exact hG
  | .inr (p, ls, A, nc, wn), hG, ha =>
    obtain ⟨-, hlt⟩ := ha p ls A nc wn rfl
    obtain ⟨o1, o2, o3, o4, o5, o6, t1, t2, t3, t4, t5, t6, t7⟩ := hG
    have h7 : nt (A 7) ≤ 8 := (t4.1 7 (by decide)).2.1
    have hA : ∀ j, ¬ j = i → ua A i v j = A j := fun j hj => ua_n hj
    show COk μ d n lo p ls (ua A i v) nc wn
    generalize ua A i v = A2 at *
    have hix : ∀ l j q', l < 8 → j < lms.getD l 0 → q' < tS l → A2 (tb l + tS l * j + q') = A (tb l + tS l * j + q') := fun l j q' hl hj hq' => by
      have := ix_lt hj hq'
      have hd := (tb_d l hl).1.2.2.2.2.2.2
      exact hA _ (by omega)
    refine ⟨o1, o2, o3, o4, o5, o6, fun l hl => ?_, fun l l1 l2 => ?_, ?_, ⟨fun l hl => ?_, ?_, ?_⟩, t5, t6, fun u hu => ?_⟩
    · obtain ⟨a1, a2⟩ := t1 l hl
      refine ⟨by rw [hA l (by omega)]; exact a1, fun j q' hj hq' => ?_⟩
      rw [hA l (by omega)] at hj
      rw [hix l j q' hl (by have := (t4.1 l hl).2.1; omega) hq']; exact a2 j q' hj hq'
    · rw [hA _ (by omega)]; exact t2 l l1 l2
    · obtain ⟨a1, a2⟩ := t3
      refine ⟨by rw [hA _ (by omega)]; exact a1, fun j q' hj j1 j2 => ?_⟩
      rw [hA _ (by omega)] at hj
      rw [hA _ (by omega)]; exact a2 j q' hj j1 j2
    · obtain ⟨a1, a2, a3⟩ := t4.1 l hl
      rw [hA l (by omega)]
      exact ⟨a1, a2, fun j q' hj hj2 hq' => by rw [hix l j q' hl hj2 hq']; exact a3 j q' hj hj2 hq'⟩
    · rw [hA 8 (by omega)]; exact t4.2.1
    · rw [hA 8 (by omega)]; exact t4.2.2
    · rw [hA u (by omega)]; exact t7 u hu
theorem g_nameP_k : (g_nameP b n g).1 = 0 ∨ (g_nameP b n g).1 = 2 := by
  match g with
  | .inl e => exact Or.inl rfl
  | .inr (p, ls, A, nc, wn) =>
    show (if tk b n p = 1 then (if kwr (tw b n p) = 0 then (match lkf (wn 0) (tw b n p) (nc 0), lkf (wn 2) (tw b n p) (nc 2) with
      | some r, _ => (0, r, (.inr (te b n p, ts b n p, A, nc, wn) : GST))
      | none, some r => (2, r, .inr (te b n p, ts b n p, A, nc, wn))
      | none, none => (0, 0, .inl (4, ts b n p))) else (0, 0, .inl (2, ts b n p))) else (0, 0, .inl (ek (tk b n p), ts b n p))).1 = 0 ∨ _
    show _ ∨ (if tk b n p = 1 then (if kwr (tw b n p) = 0 then (match lkf (wn 0) (tw b n p) (nc 0), lkf (wn 2) (tw b n p) (nc 2) with
      | some r, _ => (0, r, (.inr (te b n p, ts b n p, A, nc, wn) : GST))
      | none, some r => (2, r, .inr (te b n p, ts b n p, A, nc, wn))
      | none, none => (0, 0, .inl (4, ts b n p))) else (0, 0, .inl (2, ts b n p))) else (0, 0, .inl (ek (tk b n p), ts b n p))).1 = 2
    split
    · split
      · split
        · exact Or.inl rfl
        · exact Or.inr rfl
        · exact Or.inl rfl
      · exact Or.inl rfl
    · exact Or.inl rfl
/-- only where all is well -/
def HP (g : GST) (P : Prop) : Prop := ∀ o, g = .inr o → P
theorem HP.tok {P : Prop} {kd : Nat} (h : HP g P) : HP (g_tok b n kd g) P := by
  match g, h with
  | .inl e, _ => intro o h; cases h
  | .inr o, h => intro _ _; exact h o rfl
theorem HP.name {P : Prop} {t : Nat} (h : HP g P) : HP (g_name b n t g).2 P := by
  match g, h with
  | .inl e, _ => intro o h; cases h
  | .inr o, h => intro _ _; exact h o rfl
theorem HP.num {l1 l2 : Nat} : HP (g_num b n l1 l2 g).2 (l1 ≤ (g_num b n l1 l2 g).1 ∧ (g_num b n l1 l2 g).1 ≤ l2) := by
  match g with
  | .inl e => intro o h; cases h
  | .inr (p, ls, A, nc, wn) =>
    intro o h
    have eg : g_num b n l1 l2 (.inr (p, ls, A, nc, wn)) = if tk b n p = 2 then (if l1 ≤ tv b n p ∧ tv b n p ≤ l2 then (tv b n p, .inr (te b n p, ts b n p, A, nc, wn)) else (tv b n p, .inl (3, ts b n p))) else (0, .inl (ek (tk b n p), ts b n p)) := rfl
    rw [eg] at h ⊢
    by_cases hk : tk b n p = 2
    · rw [if_pos hk] at h ⊢
      by_cases hr : l1 ≤ tv b n p ∧ tv b n p ≤ l2
      · rw [if_pos hr]; exact hr
      · rw [if_neg hr] at h; cases h
    · rw [if_neg hk] at h; cases h
def g_ctl (l : Nat) (g : GST) : GST := match g with
  | .inl e => .inl e
  | .inr (p, ls, A, nc, wn) => if A (73 + l - 1) = -nI 1 then .inr (p, ls, A, nc, wn) else .inl (5, ls)
theorem HP.ctl {P : Prop} {l : Nat} (h : HP g P) : HP (g_ctl l g) P := by
  match g, h with
  | .inl e, _ => intro o h; cases h
  | .inr o, h => intro _ _; exact h o rfl
theorem x1_controlA {q l : Nat} (h : SB μ q) (hl : l < 1000) : ∃ v, F_X1_controlAt q (nI l) μ = some v ∧ (1 ≤ l ∧ l ≤ 3 → v = gI μ (q + 17) l) := by
  by_cases h1 : 1 ≤ l ∧ l ≤ 3
  · exact ⟨_, x1_control h h1.1 h1.2, fun _ => rfl⟩
  · refine ⟨-nI 1, ?_, fun h => absurd h h1⟩
    clear h
    by_cases h0 : l < 1
    · simp (disch := first | assumption | omega) only [q_bl, q_baT, q_bi, q_ba, q_pr, q_ob, q_iT, q_iN, q_it, q_if, q_of, nI_add, pk_mul, pk_sub, nI_leI, nI_ltI, nI_eq, nI_clamp, nI_lt0, nI_eqm, m1_eq, true_or, or_true, not_false_eq_true, m1_lt, m1_nlt, m1_le, m1_nle, b01, b011, q_em, q_m1, n_0, n_1, n_2, n_3, n_4, n_5, n_6, n_7, n_8, n_9, n_10, n_11, n_12, n_14, n_15, n_16, n_20, n_24, n_25, n_32, n_36, n_40, n_41, n_42, n_43, n_45, n_46, n_48, n_57, n_59, n_60, n_73, n_76, n_97, n_99, n_100, n_106, n_109, n_120, n_122, n_136, n_160, n_176, n_200, n_255, n_800, n_1000, n_1001, n_1002, n_1003, n_1006, n_1012, n_1018, n_1019, n_1020, n_1100, n_1140, n_4800, n_4920, n_5940, n_6740, n_20220, F_X1_controlAt, h0]
    · have h3 : ¬ l ≤ 3 := by omega
      simp (disch := first | assumption | omega) only [q_bl, q_baT, q_bi, q_ba, q_pr, q_ob, q_iT, q_iN, q_it, q_if, q_of, nI_add, pk_mul, pk_sub, nI_leI, nI_ltI, nI_eq, nI_clamp, nI_lt0, nI_eqm, m1_eq, true_or, or_true, not_false_eq_true, m1_lt, m1_nlt, m1_le, m1_nle, b01, b011, q_em, q_m1, n_0, n_1, n_2, n_3, n_4, n_5, n_6, n_7, n_8, n_9, n_10, n_11, n_12, n_14, n_15, n_16, n_20, n_24, n_25, n_32, n_36, n_40, n_41, n_42, n_43, n_45, n_46, n_48, n_57, n_59, n_60, n_73, n_76, n_97, n_99, n_100, n_106, n_109, n_120, n_122, n_136, n_160, n_176, n_200, n_255, n_800, n_1000, n_1001, n_1002, n_1003, n_1006, n_1012, n_1018, n_1019, n_1020, n_1100, n_1140, n_4800, n_4920, n_5940, n_6740, n_20220, F_X1_controlAt, h0, h3]
theorem x1_plugA {q l : Nat} {v : Int32} (h : SB μ q) (hl : l < 1000) : ∃ μ', F_X1_plugControlField q (nI l) v μ = some μ' ∧ Fx (fun a => a = q + 17) μ μ' ∧ (1 ≤ l ∧ l ≤ 3 → μ' = stI μ (q + 17) l v) := by
  by_cases h1 : 1 ≤ l ∧ l ≤ 3
  · exact ⟨_, x1_plug h h1.1 h1.2, Fx.stI rfl, fun _ => rfl⟩
  · refine ⟨μ, ?_, Fx.same, fun h => absurd h h1⟩
    clear h
    by_cases h0 : l < 1
    · simp (disch := first | assumption | omega) only [q_bl, q_baT, q_bi, q_ba, q_pr, q_ob, q_iT, q_iN, q_it, q_if, q_of, nI_add, pk_mul, pk_sub, nI_leI, nI_ltI, nI_eq, nI_clamp, nI_lt0, nI_eqm, m1_eq, true_or, or_true, not_false_eq_true, m1_lt, m1_nlt, m1_le, m1_nle, b01, b011, q_em, q_m1, n_0, n_1, n_2, n_3, n_4, n_5, n_6, n_7, n_8, n_9, n_10, n_11, n_12, n_14, n_15, n_16, n_20, n_24, n_25, n_32, n_36, n_40, n_41, n_42, n_43, n_45, n_46, n_48, n_57, n_59, n_60, n_73, n_76, n_97, n_99, n_100, n_106, n_109, n_120, n_122, n_136, n_160, n_176, n_200, n_255, n_800, n_1000, n_1001, n_1002, n_1003, n_1006, n_1012, n_1018, n_1019, n_1020, n_1100, n_1140, n_4800, n_4920, n_5940, n_6740, n_20220, F_X1_plugControlField, h0]
    · have h3 : ¬ l ≤ 3 := by omega
      simp (disch := first | assumption | omega) only [q_bl, q_baT, q_bi, q_ba, q_pr, q_ob, q_iT, q_iN, q_it, q_if, q_of, nI_add, pk_mul, pk_sub, nI_leI, nI_ltI, nI_eq, nI_clamp, nI_lt0, nI_eqm, m1_eq, true_or, or_true, not_false_eq_true, m1_lt, m1_nlt, m1_le, m1_nle, b01, b011, q_em, q_m1, n_0, n_1, n_2, n_3, n_4, n_5, n_6, n_7, n_8, n_9, n_10, n_11, n_12, n_14, n_15, n_16, n_20, n_24, n_25, n_32, n_36, n_40, n_41, n_42, n_43, n_45, n_46, n_48, n_57, n_59, n_60, n_73, n_76, n_97, n_99, n_100, n_106, n_109, n_120, n_122, n_136, n_160, n_176, n_200, n_255, n_800, n_1000, n_1001, n_1002, n_1003, n_1006, n_1012, n_1018, n_1019, n_1020, n_1100, n_1140, n_4800, n_4920, n_5940, n_6740, n_20220, F_X1_plugControlField, h0, h3]
theorem CB.ctl {P : Nat → Prop} (hB : CB μ d b n) (f : Fx P μ μ') (hp : ∀ a, P a → a = d + 22) : CB μ' d b n := by
  obtain ⟨h1, h2, h3, h4, h5, h6⟩ := hB
  refine ⟨h1.fx f, ?_, h3, fun j hj => ?_, fun j hj => ?_, ?_⟩
  · rw [f.I (fun q => by have := hp _ q; omega)]; exact h2
  · rw [f.I (fun q => by have := hp _ q; omega)]; exact h4 j hj
  · rw [f.I (fun q => by have := hp _ q; omega)]; exact h5 j hj
  · rw [f.I (fun q => by have := hp _ q; omega)]; exact h6
theorem gplug {l : Nat} {v : Int32} (h : CR μ d b n lo g) (hl : l < 1000) (hp : HP g (1 ≤ l ∧ l ≤ 3)) : ∃ μ', F_X1_plugControlField (d + 5) (nI l) v μ = some μ' ∧ CR μ' d b n lo (g_put (73 + l - 1) v g) ∧ FR d μ μ' := by
  obtain ⟨hB, hG⟩ := h
  obtain ⟨μ2, e2, f2, e3⟩ := x1_plugA (v := v) hB.sb hl
  have fr : FR d μ μ2 := ⟨f2.mono (fun a ha => by omega), by rw [f2.I (by omega)]⟩
  have hB2 := hB.ctl f2 (fun a ha => by omega)
  refine ⟨μ2, e2, ⟨hB2, ?_⟩, fr⟩
  match g, hG, hp with
  | .inl e, hG, _ => exact CE.fx hG f2 (by omega)
  | .inr (p, ls, A, nc, wn), hG, hp =>
    have hr := hp _ rfl
    have e4 := e3 hr
    obtain ⟨o1, o2, o3, o4, o5, o6, t1, t2, t3, t4, t5, t6, t7⟩ := hG
    have e13 : gI μ2 d = gI μ d := f2.I (by omega)
    have g17 : ∀ j, gI μ2 (d + 22) j = if j = l then v else gI μ (d + 22) j := fun j => by
      rw [e4, q_iI, show d + 22 = d + 5 + 17 from by omega]
      by_cases hj : j = l
      · subst hj; rw [q_us, if_pos rfl]
      · rw [q_un (fun e => hj e.2), if_neg hj]
    have hA : ∀ j, ¬ j = 73 + l - 1 → ua A (73 + l - 1) v j = A j := fun j hj => ua_n hj
    have hAs : ua A (73 + l - 1) v (73 + l - 1) = v := ua_s _ _ _
    show COk μ2 d n lo p ls (ua A (73 + l - 1) v) nc wn
    generalize ua A (73 + l - 1) v = A2 at *
    have hix : ∀ l' j q', l' < 8 → j < lms.getD l' 0 → q' < tS l' → A2 (tb l' + tS l' * j + q') = A (tb l' + tS l' * j + q') := fun l' j q' hl' hj hq' => by
      have := ix_lt hj hq'
      have hd := (tb_d l' hl').1.2.2.2.2.2.1
      exact hA _ (by omega)
    refine ⟨by rw [e13]; exact o1, by rw [e13]; exact o2, o3, o4, by rw [e13]; exact o5, o6, fun l' hl' => ?_, fun l' l1 l2 => ?_, ?_, ⟨fun l' hl' => ?_, ?_, ?_⟩, ?_, t6, fun u hu => ?_⟩
    · obtain ⟨a1, a2⟩ := t1 l' hl'
      refine ⟨by rw [f2.I (by omega), hA l' (by have := (tb_d l' hl').1.1; omega)]; exact a1, fun j q' hj hq' => ?_⟩
      rw [hA l' (by omega)] at hj
      rw [f2.I (by omega), hix l' j q' hl' (by have := (t4.1 l' hl').2.1; omega) hq']; exact a2 j q' hj hq'
    · rw [g17]
      by_cases hll : l' = l
      · subst hll; rw [if_pos rfl, hAs]
      · rw [if_neg hll, hA _ (by omega)]; exact t2 l' l1 l2
    · obtain ⟨a1, a2⟩ := t3
      refine ⟨by rw [f2.I (by omega), hA _ (by omega)]; exact a1, fun j q' hj j1 j2 => ?_⟩
      rw [hA _ (by omega)] at hj
      rw [f2.I (by omega), hA _ (by omega)]; exact a2 j q' hj j1 j2
    · obtain ⟨a1, a2, a3⟩ := t4.1 l' hl'
      rw [hA l' (by omega)]
      exact ⟨a1, a2, fun j q' hj hj2 hq' => by rw [hix l' j q' hl' hj2 hq']; exact a3 j q' hj hj2 hq'⟩
    · rw [hA 8 (by omega)]; exact t4.2.1
    · rw [hA 8 (by omega)]; exact t4.2.2
    · obtain ⟨a1, a2, a3, a4, a5, a6⟩ := t5
      refine ⟨by rw [e13]; exact a1, a2, a3, a4, fun j hj => ?_, fun u r hu hr => ?_⟩
      · rw [f2.J (by omega), f2.I (by omega), f2.I (by omega)]; exact a5 j hj
      · rw [f2.J (by omega)]; exact a6 u r hu hr
    · rw [hA u (by omega)]; exact t7 u hu
theorem gctl {l : Nat} (h : CR μ d b n lo g) (hl : l < 1000) (hp : HP g (1 ≤ l ∧ l ≤ 3)) : ∃ v μ', F_X1_controlAt (d + 5) (nI l) μ = some v ∧ (v = -nI 1 → μ' = μ) ∧ (¬ v = -nI 1 → F_X5_fail d (nI 5) μ = some μ') ∧ CR μ' d b n lo (g_ctl l g) ∧ FR d μ μ' := by
  obtain ⟨v, e1, e2⟩ := x1_controlA h.1.sb hl
  by_cases hv : v = -nI 1
  · refine ⟨v, μ, e1, fun _ => rfl, fun q => absurd hv q, ?_, FR.same⟩
    refine ⟨h.1, ?_⟩
    match g, h, hp with
    | .inl e, h, _ => exact h.2
    | .inr (p, ls, A, nc, wn), h, hp =>
      have hr := hp _ rfl
      have e3 := e2 hr
      have e4 := h.2.2.2.2.2.2.2.2.1 l hr.1 hr.2
      show CG μ d n lo (if A (73 + l - 1) = -nI 1 then _ else _)
      rw [if_pos (by rw [← e4, ← hv, e3])]
      exact h.2
  · obtain ⟨μ2, e5, c5, f5⟩ := gfail (k := 5) h (by decide) (by decide)
    refine ⟨v, μ2, e1, fun q => absurd q hv, fun _ => e5, ?_, f5⟩
    match g, h, hp, c5 with
    | .inl e, h, _, c5 => exact c5
    | .inr (p, ls, A, nc, wn), h, hp, c5 =>
      have hr := hp _ rfl
      have e3 := e2 hr
      have e4 := h.2.2.2.2.2.2.2.2.1 l hr.1 hr.2
      show CR μ2 d b n lo (if A (73 + l - 1) = -nI 1 then _ else _)
      rw [if_neg (by rw [← e4]; intro q; exact hv (e3.trans q))]
      exact c5
def g_control (b : Nat → Nat) (n : Nat) (g : GST) : GST :=
  let r1 := g_num b n 1 3 g
  let g2 := g_ctl r1.1 r1.2
  let r3 := g_name b n 0 g2
  let g4 := g_tok b n 3 r3.2
  g_put (73 + r1.1 - 1) (nI r3.1) g4
theorem x5_control (h : CR μ d b n lo g) : ∃ μ', F_X5_readControl d μ = some μ' ∧ CR μ' d b n lo (g_control b n g) ∧ FR d μ μ' := by
  obtain ⟨μ1, e1, c1, f1⟩ := gnum (l1 := 1) (l2 := 3) (by decide) (by decide) h
  have v1 := g_num_lt (b := b) (n := n) (l1 := 1) (l2 := 3) (g := g)
  have p1 := HP.num (b := b) (n := n) (l1 := 1) (l2 := 3) (g := g)
  have q0 := h.1.bd 0 (by decide)
  have q1 := c1.1.bd 0 (by decide)
  generalize hg1 : g_num b n 1 3 g = r1 at *
  obtain ⟨v, μ2, e2, e2a, e2b, c2, f2⟩ := gctl c1 (by omega) p1
  have p2 := p1.ctl (l := r1.1)
  have q2 := c2.1.bd 0 (by decide)
  generalize hg2 : g_ctl r1.1 r1.2 = g2 at *
  obtain ⟨μ3, e3, c3, f3⟩ := gname (t := 0) (by decide) c2
  rw [pw0] at e3
  have p3 := p2.name (b := b) (n := n) (t := 0)
  have q3 := c3.1.bd 0 (by decide)
  generalize hg3 : g_name b n 0 g2 = r3 at *
  obtain ⟨μ4, e4, c4, f4⟩ := gsemi c3
  have p4 := p3.tok (b := b) (n := n) (kd := 3)
  have q4 := c4.1.bd 0 (by decide)
  generalize hg4 : g_tok b n 3 r3.2 = g4 at *
  obtain ⟨μ5, e5, c5, f5⟩ := gplug (v := nI r3.1) c4 (by omega) p4
  have eF : F_X5_readControl d μ = some μ5 := by
    clear h c1 c2 c3 c4 c5 f1 f2 f3 f4 f5 p1 p2 p3 p4 hg1 hg2 hg3 hg4
    by_cases hv : v = -nI 1
    · have := e2a hv
      subst this
      simp (disch := first | assumption | omega) only [q_bl, q_baT, q_bi, q_ba, q_pr, q_ob, q_iT, q_iN, q_it, q_if, q_of, nI_add, pk_mul, pk_sub, nI_leI, nI_ltI, nI_eq, nI_clamp, nI_lt0, nI_eqm, m1_eq, true_or, or_true, not_false_eq_true, m1_lt, m1_nlt, m1_le, m1_nle, b01, b011, q_em, q_m1, n_0, n_1, n_2, n_3, n_4, n_5, n_6, n_7, n_8, n_9, n_10, n_11, n_12, n_14, n_15, n_16, n_20, n_24, n_25, n_32, n_36, n_40, n_41, n_42, n_43, n_45, n_46, n_48, n_57, n_59, n_60, n_73, n_76, n_97, n_99, n_100, n_106, n_109, n_120, n_122, n_136, n_160, n_176, n_200, n_255, n_800, n_1000, n_1001, n_1002, n_1003, n_1006, n_1012, n_1018, n_1019, n_1020, n_1100, n_1140, n_4800, n_4920, n_5940, n_6740, n_20220, F_X5_readControl, B_X5_readControl_24, q0, q1, q2, q3, q4, e1, e2, hv, e3, e4, e5]
    · have := e2b hv
      simp (disch := first | assumption | omega) only [q_bl, q_baT, q_bi, q_ba, q_pr, q_ob, q_iT, q_iN, q_it, q_if, q_of, nI_add, pk_mul, pk_sub, nI_leI, nI_ltI, nI_eq, nI_clamp, nI_lt0, nI_eqm, m1_eq, true_or, or_true, not_false_eq_true, m1_lt, m1_nlt, m1_le, m1_nle, b01, b011, q_em, q_m1, n_0, n_1, n_2, n_3, n_4, n_5, n_6, n_7, n_8, n_9, n_10, n_11, n_12, n_14, n_15, n_16, n_20, n_24, n_25, n_32, n_36, n_40, n_41, n_42, n_43, n_45, n_46, n_48, n_57, n_59, n_60, n_73, n_76, n_97, n_99, n_100, n_106, n_109, n_120, n_122, n_136, n_160, n_176, n_200, n_255, n_800, n_1000, n_1001, n_1002, n_1003, n_1006, n_1012, n_1018, n_1019, n_1020, n_1100, n_1140, n_4800, n_4920, n_5940, n_6740, n_20220, F_X5_readControl, B_X5_readControl_24, q0, q1, q2, q3, q4, e1, e2, hv, this, e3, e4, e5]
  subst hg4 hg3 hg2 hg1
  exact ⟨μ5, eF, c5, f1.trans (f2.trans (f3.trans (f4.trans f5)))⟩
def g_counter (b : Nat → Nat) (n c : Nat) (g : GST) : GST :=
  let g1 := g_start 2 6 g
  let g2 := g_new b n 2 g1
  let r3 := g_num b n 1 9 g2
  let g4 := g_put (tb 2 + tS 2 * c + 0) (nI r3.1) r3.2
  let r5 := g_name b n 0 g4
  let g6 := g_put (tb 2 + tS 2 * c + 1) (nI r5.1) r5.2
  let r7 := g_mode b n g6
  let g8 := g_put (tb 2 + tS 2 * c + 2) (nI r7.1) r7.2
  let g9 := g_put (tb 2 + tS 2 * c + 3) (-nI 1) g8
  let r10 := g_opt b n g9
  if r10.1 = 16 ∨ r10.1 = 17 then g_tok b n 3 (g_put (tb 2 + tS 2 * c + 4) (nI (if r10.1 = 17 then 1 else 0)) (g_put (tb 2 + tS 2 * c + 3) (nI (g_name b n 1 r10.2).1) (g_name b n 1 r10.2).2)) else if r10.1 = 0 then r10.2 else g_fail 2 r10.2
set_option maxHeartbeats 4000000 in
theorem x5_counter (h : CR μ d b n lo (.inr (p, ls, A, nc, wn))) (hn : nc 2 = nt (A 2)) : ∃ μ', F_X5_readCounter d μ = some μ' ∧ CR μ' d b n lo (g_counter b n (nt (A 2)) (.inr (p, ls, A, nc, wn))) ∧ FR d μ μ' := by
  obtain ⟨row, μ1, e1, c1, f1, hr⟩ := gstart (k := 2) (t := d + 5 + 1 + 2 * 2) (by decide) (by omega) h
  have a1 := HA.start (p := p) (ls := ls) (A := A) (nc := nc) (wn := wn) (k := 2) (lim := 6) hr (by decide)
  have c1 : CR μ1 d b n lo (g_start 2 6 (.inr (p, ls, A, nc, wn))) := c1
  have n1 := HA.startN (p := p) (ls := ls) (A := A) (nc := nc) (wn := wn) (t := 2) (lim := 6) hr (by decide) hn
  have q0 := h.1.bd 2 (by decide)
  have q1 := c1.1.bd 2 (by decide)
  generalize hg1 : g_start 2 6 (.inr (p, ls, A, nc, wn)) = g1 at *
  obtain ⟨μ2, e2, c2, f2⟩ := gnew (t := 2) (row := row) (by decide) c1 n1
  rw [pw2] at e2
  have a2 := a1.new (b := b) (n := n) (t := 2)
  have q2 := c2.1.bd 2 (by decide)
  generalize hg2 : g_new b n 2 g1 = g2 at *
  obtain ⟨μ3, e3, c3, f3⟩ := gnum (l1 := 1) (l2 := 9) (by decide) (by decide) c2
  have a3 := a2.num (b := b) (n := n) (l1 := 1) (l2 := 9)
  have q3 := c3.1.bd 2 (by decide)
  generalize hg3 : g_num b n 1 9 g2 = r3 at *
  obtain ⟨μ4, e4, c4, f4⟩ := gput (k := 2) (q := 0) (t := d + 5 + 1 + 2 * 2) (c := nt (A 2)) (row := row) (v := nI r3.1) (by decide) (by omega) (by decide) c3 a3
  have a4 := a3.put (i := tb 2 + tS 2 * nt (A 2) + 0) (v := nI r3.1) (by have := (tb_d 2 (by decide)).1.1; omega)
  have q4 := c4.1.bd 2 (by decide)
  generalize hg4 : g_put (tb 2 + tS 2 * nt (A 2) + 0) (nI r3.1) r3.2 = g4 at *
  obtain ⟨μ5, e5, c5, f5⟩ := gname (t := 0) (by decide) c4
  rw [pw0] at e5
  have a5 := a4.name (b := b) (n := n) (t := 0)
  have q5 := c5.1.bd 2 (by decide)
  generalize hg5 : g_name b n 0 g4 = r5 at *
  obtain ⟨μ6, e6, c6, f6⟩ := gput (k := 2) (q := 1) (t := d + 5 + 1 + 2 * 2) (c := nt (A 2)) (row := row) (v := nI r5.1) (by decide) (by omega) (by decide) c5 a5
  have a6 := a5.put (i := tb 2 + tS 2 * nt (A 2) + 1) (v := nI r5.1) (by have := (tb_d 2 (by decide)).1.1; omega)
  have q6 := c6.1.bd 2 (by decide)
  generalize hg6 : g_put (tb 2 + tS 2 * nt (A 2) + 1) (nI r5.1) r5.2 = g6 at *
  obtain ⟨μ7, e7, c7, f7⟩ := gmode c6
  have a7 := a6.mode (b := b) (n := n)
  have q7 := c7.1.bd 2 (by decide)
  generalize hg7 : g_mode b n g6 = r7 at *
  obtain ⟨μ8, e8, c8, f8⟩ := gput (k := 2) (q := 2) (t := d + 5 + 1 + 2 * 2) (c := nt (A 2)) (row := row) (v := nI r7.1) (by decide) (by omega) (by decide) c7 a7
  have a8 := a7.put (i := tb 2 + tS 2 * nt (A 2) + 2) (v := nI r7.1) (by have := (tb_d 2 (by decide)).1.1; omega)
  have q8 := c8.1.bd 2 (by decide)
  generalize hg8 : g_put (tb 2 + tS 2 * nt (A 2) + 2) (nI r7.1) r7.2 = g8 at *
  obtain ⟨μ9, e9, c9, f9⟩ := gput (k := 2) (q := 3) (t := d + 5 + 1 + 2 * 2) (c := nt (A 2)) (row := row) (v := -nI 1) (by decide) (by omega) (by decide) c8 a8
  have a9 := a8.put (i := tb 2 + tS 2 * nt (A 2) + 3) (v := -nI 1) (by have := (tb_d 2 (by decide)).1.1; omega)
  have q9 := c9.1.bd 2 (by decide)
  generalize hg9 : g_put (tb 2 + tS 2 * nt (A 2) + 3) (-nI 1) g8 = g9 at *
  obtain ⟨μ10, e10, c10, f10, w10⟩ := gopt c9
  have a10 := a9.opt (b := b) (n := n)
  have q10 := c10.1.bd 2 (by decide)
  have eG : g_counter b n (nt (A 2)) (.inr (p, ls, A, nc, wn)) = if (g_opt b n g9).1 = 16 ∨ (g_opt b n g9).1 = 17 then g_tok b n 3 (g_put (tb 2 + tS 2 * (nt (A 2)) + 4) (nI (if (g_opt b n g9).1 = 17 then 1 else 0)) (g_put (tb 2 + tS 2 * (nt (A 2)) + 3) (nI (g_name b n 1 (g_opt b n g9).2).1) (g_name b n 1 (g_opt b n g9).2).2)) else if (g_opt b n g9).1 = 0 then (g_opt b n g9).2 else g_fail 2 (g_opt b n g9).2 := by subst hg9 hg8 hg7 hg6 hg5 hg4 hg3 hg2 hg1; rfl
  rw [eG]
  generalize g_opt b n g9 = r10 at *
  by_cases h12 : r10.1 = 16 ∨ r10.1 = 17
  · rw [if_pos h12]
    obtain ⟨μa, ea, ca, fa⟩ := gname (t := 1) (by decide) c10
    rw [pw1] at ea
    have aa := a10.name (b := b) (n := n) (t := 1)
    have qa := ca.1.bd 2 (by decide)
    generalize g_name b n 1 r10.2 = ra at *
    obtain ⟨μb, eb, cb, fb⟩ := gput (k := 2) (q := 3) (t := d + 5 + 1 + 2 * 2) (c := nt (A 2)) (row := row) (v := nI ra.1) (by decide) (by omega) (by decide) ca aa
    have ab := aa.put (i := tb 2 + tS 2 * nt (A 2) + 3) (v := nI ra.1) (by have := (tb_d 2 (by decide)).1.1; omega)
    have qb := cb.1.bd 2 (by decide)
    obtain ⟨μc, ec, cc, fc⟩ := gput (k := 2) (q := 4) (t := d + 5 + 1 + 2 * 2) (c := nt (A 2)) (row := row) (v := nI (if r10.1 = 17 then 1 else 0)) (by decide) (by omega) (by decide) cb ab
    have qc := cc.1.bd 2 (by decide)
    obtain ⟨μd, ed, cd, fd⟩ := gsemi cc
    refine ⟨μd, ?_, cd, f1.trans (f2.trans (f3.trans (f4.trans (f5.trans (f6.trans (f7.trans (f8.trans (f9.trans (f10.trans (fa.trans (fb.trans (fc.trans (fd)))))))))))))⟩
    clear h c1 c2 c3 c4 c5 c6 c7 c8 c9 c10 f1 f2 f3 f4 f5 f6 f7 f8 f9 f10 a1 a2 a3 a4 a5 a6 a7 a8 a9 a10 hr hn n1 eG hg1 hg2 hg3 hg4 hg5 hg6 hg7 hg8 hg9 ca cb cc cd fa fb fc fd aa ab
    have z1 : ¬ (16 : Nat) = 17 := by decide
    rcases h12 with h12 | h12
    · rw [h12, if_neg z1] at ec
      simp (disch := first | assumption | omega) only [q_bl, q_baT, q_bi, q_ba, q_pr, q_ob, q_iT, q_iN, q_it, q_if, q_of, nI_add, pk_mul, pk_sub, nI_leI, nI_ltI, nI_eq, nI_clamp, nI_lt0, nI_eqm, m1_eq, true_or, or_true, not_false_eq_true, m1_lt, m1_nlt, m1_le, m1_nle, b01, b011, q_em, q_m1, n_0, n_1, n_2, n_3, n_4, n_5, n_6, n_7, n_8, n_9, n_10, n_11, n_12, n_14, n_15, n_16, n_20, n_24, n_25, n_32, n_36, n_40, n_41, n_42, n_43, n_45, n_46, n_48, n_57, n_59, n_60, n_73, n_76, n_97, n_99, n_100, n_106, n_109, n_120, n_122, n_136, n_160, n_176, n_200, n_255, n_800, n_1000, n_1001, n_1002, n_1003, n_1006, n_1012, n_1018, n_1019, n_1020, n_1100, n_1140, n_4800, n_4920, n_5940, n_6740, n_20220, F_X5_readCounter, B_X5_readCounter_102, B_X5_readCounter_140, q0, q1, q2, q3, q4, q5, q6, q7, q8, q9, q10, e1, e2, e3, e4, e5, e6, e7, e8, e9, e10, h12, z1, ea, qa, eb, qb, ec, qc, ed]
    · rw [if_pos h12] at ec
      have z2 : ¬ (17 : Nat) = 16 := by decide
      simp (disch := first | assumption | omega) only [q_bl, q_baT, q_bi, q_ba, q_pr, q_ob, q_iT, q_iN, q_it, q_if, q_of, nI_add, pk_mul, pk_sub, nI_leI, nI_ltI, nI_eq, nI_clamp, nI_lt0, nI_eqm, m1_eq, true_or, or_true, not_false_eq_true, m1_lt, m1_nlt, m1_le, m1_nle, b01, b011, q_em, q_m1, n_0, n_1, n_2, n_3, n_4, n_5, n_6, n_7, n_8, n_9, n_10, n_11, n_12, n_14, n_15, n_16, n_20, n_24, n_25, n_32, n_36, n_40, n_41, n_42, n_43, n_45, n_46, n_48, n_57, n_59, n_60, n_73, n_76, n_97, n_99, n_100, n_106, n_109, n_120, n_122, n_136, n_160, n_176, n_200, n_255, n_800, n_1000, n_1001, n_1002, n_1003, n_1006, n_1012, n_1018, n_1019, n_1020, n_1100, n_1140, n_4800, n_4920, n_5940, n_6740, n_20220, F_X5_readCounter, B_X5_readCounter_102, B_X5_readCounter_140, q0, q1, q2, q3, q4, q5, q6, q7, q8, q9, q10, e1, e2, e3, e4, e5, e6, e7, e8, e9, e10, h12, z2, ea, qa, eb, qb, ec, qc, ed]
  · rw [if_neg h12]
    have h16 : ¬ r10.1 = 16 := fun e => h12 (Or.inl e)
    have h17 : ¬ r10.1 = 17 := fun e => h12 (Or.inr e)
    by_cases h0 : r10.1 = 0
    · rw [if_pos h0]
      refine ⟨μ10, ?_, c10, f1.trans (f2.trans (f3.trans (f4.trans (f5.trans (f6.trans (f7.trans (f8.trans (f9.trans (f10)))))))))⟩
      clear h c1 c2 c3 c4 c5 c6 c7 c8 c9 c10 f1 f2 f3 f4 f5 f6 f7 f8 f9 f10 a1 a2 a3 a4 a5 a6 a7 a8 a9 a10 hr hn n1 eG hg1 hg2 hg3 hg4 hg5 hg6 hg7 hg8 hg9
      have z0 : ¬ (0 : Nat) = 16 := by decide
      have z1 : ¬ (0 : Nat) = 17 := by decide
      simp (disch := first | assumption | omega) only [q_bl, q_baT, q_bi, q_ba, q_pr, q_ob, q_iT, q_iN, q_it, q_if, q_of, nI_add, pk_mul, pk_sub, nI_leI, nI_ltI, nI_eq, nI_clamp, nI_lt0, nI_eqm, m1_eq, true_or, or_true, not_false_eq_true, m1_lt, m1_nlt, m1_le, m1_nle, b01, b011, q_em, q_m1, n_0, n_1, n_2, n_3, n_4, n_5, n_6, n_7, n_8, n_9, n_10, n_11, n_12, n_14, n_15, n_16, n_20, n_24, n_25, n_32, n_36, n_40, n_41, n_42, n_43, n_45, n_46, n_48, n_57, n_59, n_60, n_73, n_76, n_97, n_99, n_100, n_106, n_109, n_120, n_122, n_136, n_160, n_176, n_200, n_255, n_800, n_1000, n_1001, n_1002, n_1003, n_1006, n_1012, n_1018, n_1019, n_1020, n_1100, n_1140, n_4800, n_4920, n_5940, n_6740, n_20220, F_X5_readCounter, q0, q1, q2, q3, q4, q5, q6, q7, q8, q9, q10, e1, e2, e3, e4, e5, e6, e7, e8, e9, e10, h0, z0, z1]
    · rw [if_neg h0]
      obtain ⟨μa, ea, ca, fa⟩ := gfail (k := 2) c10 (by decide) (by decide)
      refine ⟨μa, ?_, ca, f1.trans (f2.trans (f3.trans (f4.trans (f5.trans (f6.trans (f7.trans (f8.trans (f9.trans (f10.trans (fa))))))))))⟩
      clear h c1 c2 c3 c4 c5 c6 c7 c8 c9 c10 f1 f2 f3 f4 f5 f6 f7 f8 f9 f10 a1 a2 a3 a4 a5 a6 a7 a8 a9 a10 hr hn n1 eG hg1 hg2 hg3 hg4 hg5 hg6 hg7 hg8 hg9 ca fa h12
      generalize r10.1 = ow at *
      simp (disch := first | assumption | omega) only [q_bl, q_baT, q_bi, q_ba, q_pr, q_ob, q_iT, q_iN, q_it, q_if, q_of, nI_add, pk_mul, pk_sub, nI_leI, nI_ltI, nI_eq, nI_clamp, nI_lt0, nI_eqm, m1_eq, true_or, or_true, not_false_eq_true, m1_lt, m1_nlt, m1_le, m1_nle, b01, b011, q_em, q_m1, n_0, n_1, n_2, n_3, n_4, n_5, n_6, n_7, n_8, n_9, n_10, n_11, n_12, n_14, n_15, n_16, n_20, n_24, n_25, n_32, n_36, n_40, n_41, n_42, n_43, n_45, n_46, n_48, n_57, n_59, n_60, n_73, n_76, n_97, n_99, n_100, n_106, n_109, n_120, n_122, n_136, n_160, n_176, n_200, n_255, n_800, n_1000, n_1001, n_1002, n_1003, n_1006, n_1012, n_1018, n_1019, n_1020, n_1100, n_1140, n_4800, n_4920, n_5940, n_6740, n_20220, F_X5_readCounter, q0, q1, q2, q3, q4, q5, q6, q7, q8, q9, q10, e1, e2, e3, e4, e5, e6, e7, e8, e9, e10, w10, h16, h17, h0, ea]
def g_punch (b : Nat → Nat) (n c : Nat) (g : GST) : GST :=
  let g1 := g_start 7 8 g
  let r2 := g_num b n 1 3 g1
  let g3 := g_put (tb 7 + tS 7 * c + 0) (nI r2.1) r2.2
  let r4 := g_nameP b n g3
  let g5 := g_put (tb 7 + tS 7 * c + 2) (nI r4.2.1) r4.2.2
  let g6 := g_put (tb 7 + tS 7 * c + 1) (nI (if r4.1 = 0 then 1 else 0)) g5
  let r7 := g_num b n 1 20 g6
  let g8 := g_put (tb 7 + tS 7 * c + 3) (nI r7.1) r7.2
  let g9 := g_tok b n 3 g8
  g_put (176 + 3 * c + 2) (nI r7.1) (g_put (176 + 3 * c + 1) (nI (if r4.1 = 0 then r4.2.1 else 8 + r4.2.1)) (g_put (176 + 3 * c + 0) (nI r2.1) g9))
theorem x5_punch (h : CR μ d b n lo (.inr (p, ls, A, nc, wn))) : ∃ μ', F_X5_readPunch d μ = some μ' ∧ CR μ' d b n lo (g_punch b n (nt (A 7)) (.inr (p, ls, A, nc, wn))) ∧ FR d μ μ' := by
  obtain ⟨row, μ1, e1, c1, f1, hr⟩ := gstart (k := 7) (t := d + 5 + 1 + 2 * 7) (by decide) (by omega) h
  have a1 := HA.start (p := p) (ls := ls) (A := A) (nc := nc) (wn := wn) (k := 7) (lim := 8) hr (by decide)
  have c1 : CR μ1 d b n lo (g_start 7 8 (.inr (p, ls, A, nc, wn))) := c1
  have t9 := (tb_d 7 (by decide)).1.1
  have q0 := h.1.bd 7 (by decide)
  have q1 := c1.1.bd 7 (by decide)
  generalize hg1 : g_start 7 8 (.inr (p, ls, A, nc, wn)) = g1 at *
  obtain ⟨μ2, e2, c2, f2⟩ := gnum (l1 := 1) (l2 := 3) (by decide) (by decide) c1
  have a2 := a1.num (b := b) (n := n) (l1 := 1) (l2 := 3)
  have q2 := c2.1.bd 7 (by decide)
  generalize hg2 : g_num b n 1 3 g1 = r2 at *
  obtain ⟨μ3, e3, c3, f3⟩ := gput (k := 7) (q := 0) (t := d + 5 + 1 + 2 * 7) (c := nt (A 7)) (row := row) (v := nI r2.1) (by decide) (by omega) (by decide) c2 a2
  have a3 := a2.put (i := tb 7 + tS 7 * nt (A 7) + 0) (v := nI r2.1) (by omega)
  have q3 := c3.1.bd 7 (by decide)
  generalize hg3 : g_put (tb 7 + tS 7 * nt (A 7) + 0) (nI r2.1) r2.2 = g3 at *
  obtain ⟨μ4, e4, c4, f4, o4⟩ := gnameP c3
  have k4 := g_nameP_k (b := b) (n := n) (g := g3)
  have a4 := a3.nameP (b := b) (n := n)
  have q4 := c4.1.bd 7 (by decide)
  generalize hg4 : g_nameP b n g3 = r4 at *
  obtain ⟨μ5, e5, c5, f5⟩ := gput (k := 7) (q := 2) (t := d + 5 + 1 + 2 * 7) (c := nt (A 7)) (row := row) (v := nI r4.2.1) (by decide) (by omega) (by decide) c4 a4
  have a5 := a4.put (i := tb 7 + tS 7 * nt (A 7) + 2) (v := nI r4.2.1) (by omega)
  have q5 := c5.1.bd 7 (by decide)
  have d5 := put_d c4.1 (by decide) rfl (by decide) e5
  have hv : (∃ e, g_put (tb 7 + tS 7 * nt (A 7) + 2) (nI r4.2.1) r4.2.2 = .inl e) ∨ (gI μ5 d 12 = nI 1 ↔ r4.1 = 0) := by
    cases hx : r4.2.2 with
    | inl e => exact Or.inl ⟨e, rfl⟩
    | inr o =>
      right
      rw [d5, o4 o hx]
      rcases k4 with k4 | k4
      · rw [k4]; exact ⟨fun _ => rfl, fun _ => rfl⟩
      · rw [k4]; exact ⟨fun e => absurd e (by decide +kernel), fun e => absurd e (by decide)⟩
  generalize hg5 : g_put (tb 7 + tS 7 * nt (A 7) + 2) (nI r4.2.1) r4.2.2 = g5 at *
  obtain ⟨μ6, e6, c6, f6⟩ := gput (k := 7) (q := 1) (t := d + 5 + 1 + 2 * 7) (c := nt (A 7)) (row := row) (v := if gI μ5 d 12 = nI 1 then nI 1 else nI 0) (by decide) (by omega) (by decide) c5 a5
  have hw : g_put (tb 7 + tS 7 * nt (A 7) + 1) (if gI μ5 d 12 = nI 1 then nI 1 else nI 0) g5 = g_put (tb 7 + tS 7 * nt (A 7) + 1) (nI (if r4.1 = 0 then 1 else 0)) g5 := by
    rcases hv with ⟨e, hv⟩ | hv
    · rw [hv]; rfl
    · by_cases h0 : r4.1 = 0
      · rw [if_pos h0, if_pos (hv.mpr h0)]
      · rw [if_neg h0, if_neg (fun e => h0 (hv.mp e))]
  rw [hw] at c6
  have a6 := a5.put (i := tb 7 + tS 7 * nt (A 7) + 1) (v := nI (if r4.1 = 0 then 1 else 0)) (by omega)
  have q6 := c6.1.bd 7 (by decide)
  generalize hg6 : g_put (tb 7 + tS 7 * nt (A 7) + 1) (nI (if r4.1 = 0 then 1 else 0)) g5 = g6 at *
  obtain ⟨μ7, e7, c7, f7⟩ := gnum (l1 := 1) (l2 := 20) (by decide) (by decide) c6
  have a7 := a6.num (b := b) (n := n) (l1 := 1) (l2 := 20)
  have q7 := c7.1.bd 7 (by decide)
  generalize hg7 : g_num b n 1 20 g6 = r7 at *
  obtain ⟨μ8, e8, c8, f8⟩ := gput (k := 7) (q := 3) (t := d + 5 + 1 + 2 * 7) (c := nt (A 7)) (row := row) (v := nI r7.1) (by decide) (by omega) (by decide) c7 a7
  have a8 := a7.put (i := tb 7 + tS 7 * nt (A 7) + 3) (v := nI r7.1) (by omega)
  have q8 := c8.1.bd 7 (by decide)
  generalize hg8 : g_put (tb 7 + tS 7 * nt (A 7) + 3) (nI r7.1) r7.2 = g8 at *
  obtain ⟨μ9, e9, c9, f9⟩ := gsemi c8
  have a9 := a8.tok (b := b) (n := n) (kd := 3)
  have d1 := gcook (i := 176 + 3 * nt (A 7) + 0) (v := nI r2.1) c9 a9 rfl (by decide)
  have b1 := a9.put (i := 176 + 3 * nt (A 7) + 0) (v := nI r2.1) (by omega)
  have d2 := gcook (i := 176 + 3 * nt (A 7) + 1) (v := nI (if r4.1 = 0 then r4.2.1 else 8 + r4.2.1)) d1 b1 rfl (by decide)
  have b2 := b1.put (i := 176 + 3 * nt (A 7) + 1) (v := nI (if r4.1 = 0 then r4.2.1 else 8 + r4.2.1)) (by omega)
  have d3 := gcook (i := 176 + 3 * nt (A 7) + 2) (v := nI r7.1) d2 b2 rfl (by decide)
  have eF : F_X5_readPunch d μ = some μ9 := by
    clear h c1 c2 c3 c4 c5 c6 c7 c8 c9 f1 f2 f3 f4 f5 f6 f7 f8 f9 a1 a2 a3 a4 a5 a6 a7 a8 a9 hr hg1 hg2 hg3 hg4 hg5 hg6 hg7 hg8 d1 d2 d3 b1 b2 hw hv o4 k4 d5
    by_cases hx : gI μ5 d 12 = nI 1
    · rw [if_pos hx] at e6
      simp (disch := first | assumption | omega) only [q_bl, q_baT, q_bi, q_ba, q_pr, q_ob, q_iT, q_iN, q_it, q_if, q_of, nI_add, pk_mul, pk_sub, nI_leI, nI_ltI, nI_eq, nI_clamp, nI_lt0, nI_eqm, m1_eq, true_or, or_true, not_false_eq_true, m1_lt, m1_nlt, m1_le, m1_nle, b01, b011, q_em, q_m1, n_0, n_1, n_2, n_3, n_4, n_5, n_6, n_7, n_8, n_9, n_10, n_11, n_12, n_14, n_15, n_16, n_20, n_24, n_25, n_32, n_36, n_40, n_41, n_42, n_43, n_45, n_46, n_48, n_57, n_59, n_60, n_73, n_76, n_97, n_99, n_100, n_106, n_109, n_120, n_122, n_136, n_160, n_176, n_200, n_255, n_800, n_1000, n_1001, n_1002, n_1003, n_1006, n_1012, n_1018, n_1019, n_1020, n_1100, n_1140, n_4800, n_4920, n_5940, n_6740, n_20220, F_X5_readPunch, B_X5_readPunch_69, q0, q1, q2, q3, q4, q5, q6, q7, q8, e1, e2, e3, e4, e5, hx, e6, e7, e8, e9]
    · rw [if_neg hx] at e6
      simp (disch := first | assumption | omega) only [q_bl, q_baT, q_bi, q_ba, q_pr, q_ob, q_iT, q_iN, q_it, q_if, q_of, nI_add, pk_mul, pk_sub, nI_leI, nI_ltI, nI_eq, nI_clamp, nI_lt0, nI_eqm, m1_eq, true_or, or_true, not_false_eq_true, m1_lt, m1_nlt, m1_le, m1_nle, b01, b011, q_em, q_m1, n_0, n_1, n_2, n_3, n_4, n_5, n_6, n_7, n_8, n_9, n_10, n_11, n_12, n_14, n_15, n_16, n_20, n_24, n_25, n_32, n_36, n_40, n_41, n_42, n_43, n_45, n_46, n_48, n_57, n_59, n_60, n_73, n_76, n_97, n_99, n_100, n_106, n_109, n_120, n_122, n_136, n_160, n_176, n_200, n_255, n_800, n_1000, n_1001, n_1002, n_1003, n_1006, n_1012, n_1018, n_1019, n_1020, n_1100, n_1140, n_4800, n_4920, n_5940, n_6740, n_20220, F_X5_readPunch, B_X5_readPunch_69, q0, q1, q2, q3, q4, q5, q6, q7, q8, e1, e2, e3, e4, e5, hx, e6, e7, e8, e9]
  subst hg8 hg7 hg6 hg5 hg4 hg3 hg2 hg1
  exact ⟨μ9, eF, d3, f1.trans (f2.trans (f3.trans (f4.trans (f5.trans (f6.trans (f7.trans (f8.trans f9)))))))⟩
end STN

/-! LAYER 3: the reference's reader: punches -/
section RPN
variable {μ μ' : Mem} {m n p ls : Nat} {b : Nat → Nat} {A : SA} {nc : Nat → Nat} {wn : Nat → Nat → List Nat}
def B_punT (r0 : Nat) (x4 : Int32) (μ10 : Mem) : Option (Int32 × Mem) :=
  ba (gK μ10 r0 = 8) <|
  Option.bind (F_X9_isName r0 μ10) <| fun x15 =>
  if x15 = 0 then (
    Option.bind (F_X9_fail r0 (2 : Int32) μ10) <| pr fun x55 μ53 =>
    ba (x55 = 0 ∨ x55 = 1) <|
    some (x55, μ53)
    )
  else
    Option.bind (F_X9_find r0 (0 : Int32) μ10) <| fun x18 =>
    if x18 = (-1 : Int32) then (
      Option.bind (F_X9_find r0 (2 : Int32) μ10) <| fun x46 =>
      if x46 = (-1 : Int32) then (
        Option.bind (F_X9_fail r0 (4 : Int32) μ10) <| pr fun x51 μ49 =>
        ba (x51 = 0 ∨ x51 = 1) <|
        some (x51, μ49)
        )
      else
        B_X9_punch_74 r0 x4 μ10
      )
    else
      B_X9_punch_74 r0 x4 μ10
def B_punP (r0 : Nat) (μ : Mem) : Option (Int32 × Mem) :=
  ba (gK μ r0 = 8) <|
  ba (gK μ (gR μ r0 1) = 101) <|
  ba (inb (7 : Int32) (gL μ (gR μ r0 1))) <|
  bl ((176 : Int32) + ((3 : Int32) * (gI μ (gR μ r0 1) (7 : Int32).toNatClampNeg))) fun x4 =>
  Option.bind (F_X9_begin r0 (7 : Int32) (8 : Int32) μ) <| pr fun x7 μ5 =>
  if x7 = 0 then (
    some ((0 : Int32), μ5)
    )
  else
    ba (gK μ5 r0 = 8) <|
    Option.bind (F_X9_numberTo r0 x4 (1 : Int32) (3 : Int32) μ5) <| pr fun x12 μ10 =>
    if x12 = 0 then (
      some ((0 : Int32), μ10)
      )
    else B_punT r0 x4 μ10
theorem punP_eq {r0 : Nat} : F_X9_punch r0 μ = B_punP r0 μ := rfl
theorem r9_punT {c : Nat} (h : RM μ m b n p A nc wn) (hc : c < 8) (h0 : A 0 = nI (nc 0)) (h2 : A 2 = nI (nc 2)) (h7 : A 7 = nI c) : ∃ x μ', B_punT m (nI (176 + 3 * c)) μ = some (x, μ') ∧ RFr m μ μ' ∧
    ((x = nI 1 ∧ ∃ κ r col v p', ((κ = 0 ∧ r < nc 0 ∧ v = r) ∨ (κ = 2 ∧ r < nc 2 ∧ v = 8 + r)) ∧ 1 ≤ col ∧ col ≤ 20 ∧ RM μ' m b n p' (ua (ua (ua A (176 + 3 * c + 1) (nI v)) (176 + 3 * c + 2) (nI col)) 7 (nI (c + 1))) nc wn ∧ (∀ ls A', g_nameP b n (.inr (p, ls, A', nc, wn)) = (κ, r, .inr (te b n p, ts b n p, A', nc, wn))) ∧ ∃ ls', ∀ ls A', g_num b n 1 20 (.inr (te b n p, ls, A', nc, wn)) = (col, .inr (p', ls', A', nc, wn))) ∨
     (x = nI 0 ∧ ∃ e, RE μ' m e ∧ ((∀ ls A', (g_nameP b n (.inr (p, ls, A', nc, wn))).2.2 = .inl e) ∨ ((∃ κ r, ∀ ls A', g_nameP b n (.inr (p, ls, A', nc, wn)) = (κ, r, .inr (te b n p, ts b n p, A', nc, wn))) ∧ ∀ ls A', (g_num b n 1 20 (.inr (te b n p, ls, A', nc, wn))).2 = .inl e)))) := by
  have hN := r_isName h
  have q0 := h.bd
  have eg : ∀ ls A', g_nameP b n (.inr (p, ls, A', nc, wn)) = if tk b n p = 1 then (if kwr (tw b n p) = 0 then (match lkf (wn 0) (tw b n p) (nc 0), lkf (wn 2) (tw b n p) (nc 2) with
      | some r, _ => (0, r, .inr (te b n p, ts b n p, A', nc, wn))
      | none, some r => (2, r, .inr (te b n p, ts b n p, A', nc, wn))
      | none, none => (0, 0, .inl (4, ts b n p))) else (0, 0, .inl (2, ts b n p))) else (0, 0, .inl (ek (tk b n p), ts b n p)) := fun _ _ => rfl
  by_cases hcd : tk b n p = 1 ∧ kwr (tw b n p) = 0
  rotate_left
  · rw [if_neg hcd] at hN
    obtain ⟨μ2, e2, f2, c2⟩ := h.fail (k := 2) (by decide) (by decide)
    refine ⟨nI 0, μ2, ?_, f2, Or.inr ⟨rfl, _, c2, Or.inl (fun ls A' => ?_)⟩⟩
    · clear h c2 f2 eg
      simp (disch := first | assumption | omega) only [q_bl, q_baT, q_bi, q_ba, q_pr, q_ob, q_iT, q_iN, q_it, q_if, q_of, nI_add, pk_mul, pk_sub, nI_leI, nI_ltI, nI_eq, nI_clamp, nI_lt0, nI_eqm, m1_eq, true_or, or_true, not_false_eq_true, m1_lt, m1_nlt, m1_le, m1_nle, b01, b011, q_em, q_m1, n_0, n_1, n_2, n_3, n_4, n_5, n_6, n_7, n_8, n_9, n_10, n_11, n_12, n_14, n_15, n_16, n_20, n_24, n_25, n_32, n_36, n_40, n_41, n_42, n_43, n_45, n_46, n_48, n_57, n_59, n_60, n_73, n_76, n_97, n_99, n_100, n_106, n_109, n_120, n_122, n_136, n_160, n_176, n_200, n_255, n_800, n_1000, n_1001, n_1002, n_1003, n_1006, n_1012, n_1018, n_1019, n_1020, n_1100, n_1140, n_4800, n_4920, n_5940, n_6740, n_20220, B_punT, q0, hN, e2]
    · rw [eg]
      by_cases hk : tk b n p = 1
      · rw [if_pos hk, if_neg (fun q => hcd ⟨hk, q⟩), if_neg (by omega)]
      · rw [if_neg hk]; rfl
  rw [if_pos hcd] at hN
  have hF0 := r_find h (t := 0) (by decide) h0 hcd.1
  have hF2 := r_find h (t := 2) (by decide) h2 hcd.1
  have h8 := h.2.2.2.2.2.2.1
  -- what stands behind a name
  have fin : ∀ κ r v : Nat, ((κ = 0 ∧ r < nc 0 ∧ v = r) ∨ (κ = 2 ∧ r < nc 2 ∧ v = 8 + r)) → (∀ ls A', g_nameP b n (.inr (p, ls, A', nc, wn)) = (κ, r, .inr (te b n p, ts b n p, A', nc, wn))) → B_punT m (nI (176 + 3 * c)) μ = B_X9_punch_106 m (nI (176 + 3 * c)) (nI v) (nI (176 + 3 * c + 1)) (m + 2) μ →
      ∃ x μ', B_punT m (nI (176 + 3 * c)) μ = some (x, μ') ∧ RFr m μ μ' ∧
    ((x = nI 1 ∧ ∃ κ r col v p', ((κ = 0 ∧ r < nc 0 ∧ v = r) ∨ (κ = 2 ∧ r < nc 2 ∧ v = 8 + r)) ∧ 1 ≤ col ∧ col ≤ 20 ∧ RM μ' m b n p' (ua (ua (ua A (176 + 3 * c + 1) (nI v)) (176 + 3 * c + 2) (nI col)) 7 (nI (c + 1))) nc wn ∧ (∀ ls A', g_nameP b n (.inr (p, ls, A', nc, wn)) = (κ, r, .inr (te b n p, ts b n p, A', nc, wn))) ∧ ∃ ls', ∀ ls A', g_num b n 1 20 (.inr (te b n p, ls, A', nc, wn)) = (col, .inr (p', ls', A', nc, wn))) ∨
     (x = nI 0 ∧ ∃ e, RE μ' m e ∧ ((∀ ls A', (g_nameP b n (.inr (p, ls, A', nc, wn))).2.2 = .inl e) ∨ ((∃ κ r, ∀ ls A', g_nameP b n (.inr (p, ls, A', nc, wn)) = (κ, r, .inr (te b n p, ts b n p, A', nc, wn))) ∧ ∀ ls A', (g_num b n 1 20 (.inr (te b n p, ls, A', nc, wn))).2 = .inl e)))) := by
    intro κ r v hk hg hT
    obtain ⟨h3, f3⟩ := h.put (i := 176 + 3 * c + 1) (v := nI v)
    have q3 := h3.bd
    obtain ⟨μ4, e4, h4, f4, g4⟩ := h3.adv
    have q4 := h4.bd
    obtain ⟨x5, μ5, e5, f5, r5⟩ := r_num (i := 176 + 3 * c + 2) (l1 := 1) (l2 := 20) h4 (by omega) (by decide) (by decide)
    rcases r5 with ⟨rfl, t5, a5, b5, h5, s5⟩ | ⟨rfl, e, z, s5⟩
    · have q5 := h5.bd
      obtain ⟨μ6, e6, f6, h6⟩ := r_done (k := 7) (c := c) h5 (by decide) (by rw [ua_n (by omega), ua_n (by omega)]; exact h7)
      refine ⟨nI 1, μ6, ?_, f3.trans (f4.trans (f5.trans f6)), Or.inl ⟨rfl, κ, r, _, v, _, hk, a5, b5, h6, hg, _, s5⟩⟩
      rw [hT]
      clear h h3 h4 h5 h6 f3 f4 f5 f6 g4 hT hg eg hF0 hF2 s5 h8
      simp (disch := first | assumption | omega) only [q_bl, q_baT, q_bi, q_ba, q_pr, q_ob, q_iT, q_iN, q_it, q_if, q_of, nI_add, pk_mul, pk_sub, nI_leI, nI_ltI, nI_eq, nI_clamp, nI_lt0, nI_eqm, m1_eq, true_or, or_true, not_false_eq_true, m1_lt, m1_nlt, m1_le, m1_nle, b01, b011, q_em, q_m1, n_0, n_1, n_2, n_3, n_4, n_5, n_6, n_7, n_8, n_9, n_10, n_11, n_12, n_14, n_15, n_16, n_20, n_24, n_25, n_32, n_36, n_40, n_41, n_42, n_43, n_45, n_46, n_48, n_57, n_59, n_60, n_73, n_76, n_97, n_99, n_100, n_106, n_109, n_120, n_122, n_136, n_160, n_176, n_200, n_255, n_800, n_1000, n_1001, n_1002, n_1003, n_1006, n_1012, n_1018, n_1019, n_1020, n_1100, n_1140, n_4800, n_4920, n_5940, n_6740, n_20220, B_X9_punch_106, q0, q3, e4, q4, e5, q5, e6]
    · refine ⟨nI 0, μ5, ?_, f3.trans (f4.trans f5), Or.inr ⟨rfl, e, z, Or.inr ⟨⟨κ, r, hg⟩, s5⟩⟩⟩
      rw [hT]
      clear h h3 h4 f3 f4 f5 g4 hT hg eg hF0 hF2 s5 h8 z
      simp (disch := first | assumption | omega) only [q_bl, q_baT, q_bi, q_ba, q_pr, q_ob, q_iT, q_iN, q_it, q_if, q_of, nI_add, pk_mul, pk_sub, nI_leI, nI_ltI, nI_eq, nI_clamp, nI_lt0, nI_eqm, m1_eq, true_or, or_true, not_false_eq_true, m1_lt, m1_nlt, m1_le, m1_nle, b01, b011, q_em, q_m1, n_0, n_1, n_2, n_3, n_4, n_5, n_6, n_7, n_8, n_9, n_10, n_11, n_12, n_14, n_15, n_16, n_20, n_24, n_25, n_32, n_36, n_40, n_41, n_42, n_43, n_45, n_46, n_48, n_57, n_59, n_60, n_73, n_76, n_97, n_99, n_100, n_106, n_109, n_120, n_122, n_136, n_160, n_176, n_200, n_255, n_800, n_1000, n_1001, n_1002, n_1003, n_1006, n_1012, n_1018, n_1019, n_1020, n_1100, n_1140, n_4800, n_4920, n_5940, n_6740, n_20220, B_X9_punch_106, q0, q3, e4, q4, e5]
  cases hl : lkf (wn 0) (tw b n p) (nc 0) with
  | some r =>
    obtain ⟨l1, l2⟩ := lkf_s _ _ hl
    have hb := h8 0 (by decide)
    rw [hl] at hF0
    have hF : F_X9_find m (nI 0) μ = some (nI r) := hF0
    refine fin 0 r r (Or.inl ⟨rfl, l1, rfl⟩) (fun ls A' => by rw [eg, if_pos hcd.1, if_pos hcd.2, hl]) ?_
    clear h eg fin hF0 hF2 h8 l2 hl hcd
    simp (disch := first | assumption | omega) only [q_bl, q_baT, q_bi, q_ba, q_pr, q_ob, q_iT, q_iN, q_it, q_if, q_of, nI_add, pk_mul, pk_sub, nI_leI, nI_ltI, nI_eq, nI_clamp, nI_lt0, nI_eqm, m1_eq, true_or, or_true, not_false_eq_true, m1_lt, m1_nlt, m1_le, m1_nle, b01, b011, q_em, q_m1, n_0, n_1, n_2, n_3, n_4, n_5, n_6, n_7, n_8, n_9, n_10, n_11, n_12, n_14, n_15, n_16, n_20, n_24, n_25, n_32, n_36, n_40, n_41, n_42, n_43, n_45, n_46, n_48, n_57, n_59, n_60, n_73, n_76, n_97, n_99, n_100, n_106, n_109, n_120, n_122, n_136, n_160, n_176, n_200, n_255, n_800, n_1000, n_1001, n_1002, n_1003, n_1006, n_1012, n_1018, n_1019, n_1020, n_1100, n_1140, n_4800, n_4920, n_5940, n_6740, n_20220, B_punT, B_X9_punch_74, q0, hN, hF]
  | none =>
    rw [hl] at hF0
    have hF : F_X9_find m (nI 0) μ = some (-nI 1) := hF0
    cases hl2 : lkf (wn 2) (tw b n p) (nc 2) with
    | some r =>
      obtain ⟨l1, l2⟩ := lkf_s _ _ hl2
      have hb := h8 2 (by decide)
      rw [hl2] at hF2
      have hG : F_X9_find m (nI 2) μ = some (nI r) := hF2
      refine fin 2 r (8 + r) (Or.inr ⟨rfl, l1, rfl⟩) (fun ls A' => by rw [eg, if_pos hcd.1, if_pos hcd.2, hl, hl2]) ?_
      clear h eg fin hF0 hF2 h8 l2 hl hl2 hcd
      simp (disch := first | assumption | omega) only [q_bl, q_baT, q_bi, q_ba, q_pr, q_ob, q_iT, q_iN, q_it, q_if, q_of, nI_add, pk_mul, pk_sub, nI_leI, nI_ltI, nI_eq, nI_clamp, nI_lt0, nI_eqm, m1_eq, true_or, or_true, not_false_eq_true, m1_lt, m1_nlt, m1_le, m1_nle, b01, b011, q_em, q_m1, n_0, n_1, n_2, n_3, n_4, n_5, n_6, n_7, n_8, n_9, n_10, n_11, n_12, n_14, n_15, n_16, n_20, n_24, n_25, n_32, n_36, n_40, n_41, n_42, n_43, n_45, n_46, n_48, n_57, n_59, n_60, n_73, n_76, n_97, n_99, n_100, n_106, n_109, n_120, n_122, n_136, n_160, n_176, n_200, n_255, n_800, n_1000, n_1001, n_1002, n_1003, n_1006, n_1012, n_1018, n_1019, n_1020, n_1100, n_1140, n_4800, n_4920, n_5940, n_6740, n_20220, B_punT, B_X9_punch_74, q0, hN, hF, hG]
    | none =>
      rw [hl2] at hF2
      have hG : F_X9_find m (nI 2) μ = some (-nI 1) := hF2
      obtain ⟨μ2, e2, f2, c2⟩ := h.fail (k := 4) (by decide) (by decide)
      rw [if_neg (by omega)] at c2
      refine ⟨nI 0, μ2, ?_, f2, Or.inr ⟨rfl, _, c2, Or.inl (fun ls A' => by rw [eg, if_pos hcd.1, if_pos hcd.2, hl, hl2])⟩⟩
      clear h c2 f2 eg fin hF0 hF2 h8 hl hl2 hcd
      simp (disch := first | assumption | omega) only [q_bl, q_baT, q_bi, q_ba, q_pr, q_ob, q_iT, q_iN, q_it, q_if, q_of, nI_add, pk_mul, pk_sub, nI_leI, nI_ltI, nI_eq, nI_clamp, nI_lt0, nI_eqm, m1_eq, true_or, or_true, not_false_eq_true, m1_lt, m1_nlt, m1_le, m1_nle, b01, b011, q_em, q_m1, n_0, n_1, n_2, n_3, n_4, n_5, n_6, n_7, n_8, n_9, n_10, n_11, n_12, n_14, n_15, n_16, n_20, n_24, n_25, n_32, n_36, n_40, n_41, n_42, n_43, n_45, n_46, n_48, n_57, n_59, n_60, n_73, n_76, n_97, n_99, n_100, n_106, n_109, n_120, n_122, n_136, n_160, n_176, n_200, n_255, n_800, n_1000, n_1001, n_1002, n_1003, n_1006, n_1012, n_1018, n_1019, n_1020, n_1100, n_1140, n_4800, n_4920, n_5940, n_6740, n_20220, B_punT, q0, hN, hF, hG, e2]
theorem r9_punch (h : RM μ m b n p A nc wn) (v : VA A nc) (hk1 : tk b n p = 1) : RQ μ m b n (F_X9_punch m μ) (g_punch b n (nt (A 7)) (.inr (te b n p, ts b n p, A, nc, wn))) := by
  obtain ⟨w, pk, hn⟩ := v
  have cc := w.c7
  have n0 : A 0 = nI (nc 0) := by rw [hn 0 (by decide)]; exact w.c0.1
  have n2 : A 2 = nI (nc 2) := by rw [hn 2 (by decide)]; exact w.c2.1
  have q0 := h.bd
  have gA : gI μ (m + 2) 7 = nI (nt (A 7)) := (h.2.2.2.1 7 (by decide)).trans cc.1
  obtain ⟨x1, μ1, e1, f1, r1⟩ := r_begin (k := 7) (lim := 8) h (by decide) (by decide) cc.1 cc.2 hk1
  rcases r1 with ⟨rfl, lt, h1, s1⟩ | ⟨rfl, e, z, s1⟩
  rotate_left
  · refine ⟨nI 0, μ1, ?_, f1, Or.inr ⟨rfl, e, z, ?_⟩⟩
    · clear h z f1 s1 w pk hn n0 n2 cc
      simp (disch := first | assumption | omega) only [q_bl, q_baT, q_bi, q_ba, q_pr, q_ob, q_iT, q_iN, q_it, q_if, q_of, nI_add, pk_mul, pk_sub, nI_leI, nI_ltI, nI_eq, nI_clamp, nI_lt0, nI_eqm, m1_eq, true_or, or_true, not_false_eq_true, m1_lt, m1_nlt, m1_le, m1_nle, b01, b011, q_em, q_m1, n_0, n_1, n_2, n_3, n_4, n_5, n_6, n_7, n_8, n_9, n_10, n_11, n_12, n_14, n_15, n_16, n_20, n_24, n_25, n_32, n_36, n_40, n_41, n_42, n_43, n_45, n_46, n_48, n_57, n_59, n_60, n_73, n_76, n_97, n_99, n_100, n_106, n_109, n_120, n_122, n_136, n_160, n_176, n_200, n_255, n_800, n_1000, n_1001, n_1002, n_1003, n_1006, n_1012, n_1018, n_1019, n_1020, n_1100, n_1140, n_4800, n_4920, n_5940, n_6740, n_20220, punP_eq, B_punP, q0, gA, e1]
    · simp only [g_punch, s1]; rfl
  have q1 := h1.bd
  obtain ⟨x2, μ2, e2, f2, r2⟩ := r_num (i := 176 + 3 * nt (A 7)) (l1 := 1) (l2 := 3) h1 (by omega) (by decide) (by decide)
  rcases r2 with ⟨rfl, t2, a2, b2, h2, s2⟩ | ⟨rfl, e, z, s2⟩
  rotate_left
  · refine ⟨nI 0, μ2, ?_, f1.trans f2, Or.inr ⟨rfl, e, z, ?_⟩⟩
    · clear h h1 z f1 f2 s1 s2 w pk hn n0 n2 cc
      simp (disch := first | assumption | omega) only [q_bl, q_baT, q_bi, q_ba, q_pr, q_ob, q_iT, q_iN, q_it, q_if, q_of, nI_add, pk_mul, pk_sub, nI_leI, nI_ltI, nI_eq, nI_clamp, nI_lt0, nI_eqm, m1_eq, true_or, or_true, not_false_eq_true, m1_lt, m1_nlt, m1_le, m1_nle, b01, b011, q_em, q_m1, n_0, n_1, n_2, n_3, n_4, n_5, n_6, n_7, n_8, n_9, n_10, n_11, n_12, n_14, n_15, n_16, n_20, n_24, n_25, n_32, n_36, n_40, n_41, n_42, n_43, n_45, n_46, n_48, n_57, n_59, n_60, n_73, n_76, n_97, n_99, n_100, n_106, n_109, n_120, n_122, n_136, n_160, n_176, n_200, n_255, n_800, n_1000, n_1001, n_1002, n_1003, n_1006, n_1012, n_1018, n_1019, n_1020, n_1100, n_1140, n_4800, n_4920, n_5940, n_6740, n_20220, punP_eq, B_punP, q0, gA, e1, q1, e2]
    · simp only [g_punch, s1, s2, g_put_r]; rfl
  have q2 := h2.bd
  obtain ⟨x3, μ3, e3, f3, r3⟩ := r9_punT (c := nt (A 7)) h2 lt (by rw [ua_n (by omega)]; exact n0) (by rw [ua_n (by omega)]; exact n2) (by rw [ua_n (by omega)]; exact cc.1)
  have eF : F_X9_punch m μ = some (x3, μ3) := by
    clear h h1 h2 f1 f2 f3 s1 s2 w pk hn n0 n2 cc r3
    simp (disch := first | assumption | omega) only [q_bl, q_baT, q_bi, q_ba, q_pr, q_ob, q_iT, q_iN, q_it, q_if, q_of, nI_add, pk_mul, pk_sub, nI_leI, nI_ltI, nI_eq, nI_clamp, nI_lt0, nI_eqm, m1_eq, true_or, or_true, not_false_eq_true, m1_lt, m1_nlt, m1_le, m1_nle, b01, b011, q_em, q_m1, n_0, n_1, n_2, n_3, n_4, n_5, n_6, n_7, n_8, n_9, n_10, n_11, n_12, n_14, n_15, n_16, n_20, n_24, n_25, n_32, n_36, n_40, n_41, n_42, n_43, n_45, n_46, n_48, n_57, n_59, n_60, n_73, n_76, n_97, n_99, n_100, n_106, n_109, n_120, n_122, n_136, n_160, n_176, n_200, n_255, n_800, n_1000, n_1001, n_1002, n_1003, n_1006, n_1012, n_1018, n_1019, n_1020, n_1100, n_1140, n_4800, n_4920, n_5940, n_6740, n_20220, punP_eq, B_punP, q0, gA, e1, q1, e2, e3]
  rcases r3 with ⟨rfl, κ, r, col, v, p', hκ, d1, d2, h3, sP, ls', sN⟩ | ⟨rfl, e, z, sE⟩
  rotate_left
  · refine ⟨nI 0, μ3, eF, f1.trans (f2.trans f3), Or.inr ⟨rfl, e, z, ?_⟩⟩
    rcases sE with sE | ⟨⟨κ, r, sP⟩, sE⟩
    · simp only [g_punch, s1, s2, g_put_r]
      rw [sE]; rfl
    · simp only [g_punch, s1, s2, g_put_r, sP]
      rw [sE]; rfl
  obtain ⟨A', hA'⟩ : ∃ A', A' = ua (ua (ua (ua (ua (ua (ua (ua A 7 (nI (nt (A 7) + 1))) (10000 + 5 * nt (A 7) + 0) (nI (tv b n (te b n p)))) (10000 + 5 * nt (A 7) + 2) (nI r)) (10000 + 5 * nt (A 7) + 1) (nI (if κ = 0 then 1 else 0))) (10000 + 5 * nt (A 7) + 3) (nI col)) (176 + 3 * nt (A 7) + 0) (nI (tv b n (te b n p)))) (176 + 3 * nt (A 7) + 1) (nI (if κ = 0 then r else 8 + r))) (176 + 3 * nt (A 7) + 2) (nI col) := ⟨_, rfl⟩
  have hv : (if κ = 0 then r else 8 + r) = v := by
    rcases hκ with ⟨k1, k2, k3⟩ | ⟨k1, k2, k3⟩
    · rw [if_pos k1, k3]
    · rw [if_neg (by omega), k3]
  rw [hv] at hA'
  have c0 := w.c0.2
  have c2 := w.c2.2
  have hv8 : (v < 8 ∧ v < nt (A 0)) ∨ (8 ≤ v ∧ v - 8 < nt (A 2)) := by
    have k0 := hn 0 (by decide)
    have k2 := hn 2 (by decide)
    rcases hκ with ⟨k1, k3, k4⟩ | ⟨k1, k3, k4⟩
    · left; omega
    · right; omega
  have hk' : A' 7 = nI (nt (A 7) + 1) := by rw [hA']; simp (disch := omega) only [ua_n, ua_e]
  have hE6 : ∀ i, ¬ i = 7 → ¬ (176 + 3 * nt (A 7) ≤ i ∧ i < 176 + 3 * nt (A 7) + 3) → i < 6740 → A' i = A i := fun i i1 i2 i3 => by rw [hA']; simp (disch := omega) only [ua_n]
  have hEp : ∀ j, j < nt (A 7) → ∀ q, q < 3 → A' (176 + 3 * j + q) = A (176 + 3 * j + q) := fun j hj q hq => hE6 _ (by omega) (by omega) (by omega)
  have hEr : ∀ j, j < nt (A 7) → ∀ q, q < 5 → A' (10000 + 5 * j + q) = A (10000 + 5 * j + q) := fun j hj q hq => by rw [hA']; simp (disch := omega) only [ua_n]
  have w0 : A' (176 + 3 * nt (A 7)) = nI (tv b n (te b n p)) := by rw [hA']; simp (disch := omega) only [ua_n, ua_e]
  have w1 : A' (176 + 3 * nt (A 7) + 1) = nI v := by rw [hA']; simp (disch := omega) only [ua_n, ua_e]
  have w2 : A' (176 + 3 * nt (A 7) + 2) = nI col := by rw [hA']; simp (disch := omega) only [ua_n, ua_e]
  have y0 : A' (10000 + 5 * nt (A 7)) = nI (tv b n (te b n p)) := by rw [hA']; simp (disch := omega) only [ua_n, ua_e]
  have y1 : A' (10000 + 5 * nt (A 7) + 1) = nI (if κ = 0 then 1 else 0) := by rw [hA']; simp (disch := omega) only [ua_n, ua_e]
  have y2 : A' (10000 + 5 * nt (A 7) + 2) = nI r := by rw [hA']; simp (disch := omega) only [ua_n, ua_e]
  have y3 : A' (10000 + 5 * nt (A 7) + 3) = nI col := by rw [hA']; simp (disch := omega) only [ua_n, ua_e]
  refine ⟨nI 1, μ3, eF, f1.trans (f2.trans f3), Or.inl ⟨rfl, p', ls', A', nc, wn, h3.ext ?_, ⟨?_, ?_, ?_⟩, ?_⟩⟩
  · rw [hA']; intro i hi6; simp only [ua]; repeat' split
    all_goals first | rfl | omega
  · exact wb_pun w lt hk' hE6 w0 w1 w2 ⟨a2, b2⟩ hv8 ⟨d1, d2⟩
  · intro i hi
    rw [hk', nt_nI (by omega)] at hi
    by_cases hic : i = nt (A 7)
    · subst hic
      refine ⟨by rw [y0, w0], by rw [y3, w2], ?_⟩
      rw [w1, y1, y2, nt_nI (by omega)]
      have k0' := hn 0 (by decide)
      have k2' := hn 2 (by decide)
      rcases hκ with ⟨k1, k3, k4⟩ | ⟨k1, k3, k4⟩
      · left; exact ⟨by omega, by rw [if_pos k1], by rw [k4]⟩
      · right; exact ⟨by omega, by rw [if_neg (by omega)], by congr 1; omega⟩
    · have hlt : i < nt (A 7) := by omega
      have z0 := hEp i hlt 0 (by decide)
      have z1 := hEp i hlt 1 (by decide)
      have z2 := hEp i hlt 2 (by decide)
      have u0 := hEr i hlt 0 (by decide)
      have u1 := hEr i hlt 1 (by decide)
      have u2 := hEr i hlt 2 (by decide)
      have u3 := hEr i hlt 3 (by decide)
      rw [Nat.add_zero] at z0 u0
      rw [z0, z1, z2, u0, u1, u2, u3]
      exact pk i hlt
  · exact fun t ht => by rw [hn t ht, hE6 t (by omega) (by omega) (by omega)]
  · rw [hA', ← hv]; simp only [g_punch, s1, s2, sP, sN, g_put_r, g_put_tok, tb7e]
end RPN

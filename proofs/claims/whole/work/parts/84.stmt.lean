/-! LAYER 3: the class's reader: statements -/
/-- while a row is open: its number -/
def HA (g : GST) (k c : Nat) (row : Int32) : Prop := ∀ p ls A nc wn, g = .inr (p, ls, A, nc, wn) → row = nI c ∧ c < nt (A k)
section STM
variable {μ μ' μ1 : Mem} {d n lo p ls k c : Nat} {row : Int32} {b : Nat → Nat} {A : SA} {nc : Nat → Nat} {wn : Nat → Nat → List Nat} {g : GST}
theorem CB.kb (h : CB μ d b n) : gK μ (d + 5) = 1 := h.sb.1
theorem CB.bd (h : CB μ d b n) (k : Nat) (hk : k < 8) : gK μ d = 5 ∧ gR μ d 15 = d + 5 ∧ gK μ (d + 5) = 1 ∧ gR μ (d + 5) k = d + 5 + 1 + 2 * k ∧ gK μ (d + 5 + 1 + 2 * k) = 6 := ⟨h.kd, h.r15, h.kb, (h.sb.2.1 k hk).1, (h.sb.2.1 k hk).2.1⟩
theorem HA.tok {kd : Nat} (h : HA g k c row) : HA (g_tok b n kd g) k c row := by
  intro p' ls' A' nc' wn' e
  match g, h, e with
  | .inr (p, ls, A, nc, wn), h, e =>
    have e2 : (if tk b n p = kd then (.inr (te b n p, ts b n p, A, nc, wn) : GST) else .inl (ek (tk b n p), ts b n p)) = .inr (p', ls', A', nc', wn') := e
    split at e2
    · cases e2; exact h _ _ _ _ _ rfl
    · cases e2
theorem HA.num {l1 l2 : Nat} (h : HA g k c row) : HA (g_num b n l1 l2 g).2 k c row := by
  intro p' ls' A' nc' wn' e
  match g, h, e with
  | .inr (p, ls, A, nc, wn), h, e =>
    have e2 : (if tk b n p = 2 then (if l1 ≤ tv b n p ∧ tv b n p ≤ l2 then (tv b n p, (.inr (te b n p, ts b n p, A, nc, wn) : GST)) else (tv b n p, .inl (3, ts b n p))) else (0, .inl (ek (tk b n p), ts b n p))).2 = .inr (p', ls', A', nc', wn') := e
    split at e2
    · split at e2
      · cases e2; exact h _ _ _ _ _ rfl
      · cases e2
    · cases e2
theorem HA.new {t : Nat} (h : HA g k c row) : HA (g_new b n t g) k c row := by
  intro p' ls' A' nc' wn' e
  match g, h, e with
  | .inr (p, ls, A, nc, wn), h, e =>
    have e2 : (if tk b n p = 1 then (if kwr (tw b n p) = 0 then (if lkf (wn 0) (tw b n p) (nc 0) = none ∧ lkf (wn 1) (tw b n p) (nc 1) = none ∧ lkf (wn 2) (tw b n p) (nc 2) = none then (.inr (te b n p, ts b n p, A, ncu nc t, wnu wn t (nc t) (tw b n p)) : GST) else .inl (4, ts b n p)) else .inl (2, ts b n p)) else .inl (ek (tk b n p), ts b n p)) = .inr (p', ls', A', nc', wn') := e
    split at e2
    · split at e2
      · split at e2
        · cases e2; exact h _ _ _ _ _ rfl
        · cases e2
      · cases e2
    · cases e2
theorem HA.name {t : Nat} (h : HA g k c row) : HA (g_name b n t g).2 k c row := by
  intro p' ls' A' nc' wn' e
  match g, h, e with
  | .inr (p, ls, A, nc, wn), h, e =>
    have e2 : (if tk b n p = 1 then (if kwr (tw b n p) = 0 then (match lkf (wn t) (tw b n p) (nc t) with
      | some r => (r, (.inr (te b n p, ts b n p, A, nc, wn) : GST))
      | none => (0, .inl (4, ts b n p))) else (0, .inl (2, ts b n p))) else (0, .inl (ek (tk b n p), ts b n p))).2 = .inr (p', ls', A', nc', wn') := e
    split at e2
    · split at e2
      · split at e2
        · cases e2; exact h _ _ _ _ _ rfl
        · cases e2
      · cases e2
    · cases e2
theorem HA.nameP (h : HA g k c row) : HA (g_nameP b n g).2.2 k c row := by
  intro p' ls' A' nc' wn' e
  match g, h, e with
  | .inr (p, ls, A, nc, wn), h, e =>
    have e2 : (if tk b n p = 1 then (if kwr (tw b n p) = 0 then (match lkf (wn 0) (tw b n p) (nc 0), lkf (wn 2) (tw b n p) (nc 2) with
      | some r, _ => (0, r, (.inr (te b n p, ts b n p, A, nc, wn) : GST))
      | none, some r => (2, r, .inr (te b n p, ts b n p, A, nc, wn))
      | none, none => (0, 0, .inl (4, ts b n p))) else (0, 0, .inl (2, ts b n p))) else (0, 0, .inl (ek (tk b n p), ts b n p))).2.2 = .inr (p', ls', A', nc', wn') := e
    split at e2
    · split at e2
      · split at e2
        · cases e2; exact h _ _ _ _ _ rfl
        · cases e2; exact h _ _ _ _ _ rfl
        · cases e2
      · cases e2
    · cases e2
theorem HA.mode (h : HA g k c row) : HA (g_mode b n g).2 k c row := by
  intro p' ls' A' nc' wn' e
  match g, h, e with
  | .inr (p, ls, A, nc, wn), h, e =>
    have e2 : (if tk b n p = 1 then (if kwr (tw b n p) = 14 then (1, (.inr (te b n p, ts b n p, A, nc, wn) : GST)) else if kwr (tw b n p) = 15 then (2, .inr (te b n p, ts b n p, A, nc, wn)) else if kwr (tw b n p) = 13 then (0, .inr (te b n p, ts b n p, A, nc, wn)) else (0, .inl (2, ts b n p))) else (0, .inl (ek (tk b n p), ts b n p))).2 = .inr (p', ls', A', nc', wn') := e
    split at e2
    · split at e2
      · cases e2; exact h _ _ _ _ _ rfl
      · split at e2
        · cases e2; exact h _ _ _ _ _ rfl
        · split at e2
          · cases e2; exact h _ _ _ _ _ rfl
          · cases e2
    · cases e2
theorem HA.opt (h : HA g k c row) : HA (g_opt b n g).2 k c row := by
  intro p' ls' A' nc' wn' e
  match g, h, e with
  | .inr (p, ls, A, nc, wn), h, e =>
    have e2 : (if tk b n p = 4 then (0, .inl (1, ts b n p)) else if trw b n p = 0 ∧ ¬ tk b n p = 3 then (0, .inl (2, ts b n p)) else (trw b n p, (.inr (te b n p, ts b n p, A, nc, wn) : GST))).2 = .inr (p', ls', A', nc', wn') := e
    split at e2
    · cases e2
    · split at e2
      · cases e2
      · cases e2; exact h _ _ _ _ _ rfl
theorem HA.fail {q : Nat} : HA (g_fail q g) k c row := by
  intro p' ls' A' nc' wn' e
  match g, e with
  | .inl _, e => cases e
  | .inr (p, ls, A, nc, wn), e => cases e
theorem HA.put {i : Nat} {v : Int32} (h : HA g k c row) (hi : ¬ k = i) : HA (g_put i v g) k c row := by
  intro p' ls' A' nc' wn' e
  match g, h, e with
  | .inr (p, ls, A, nc, wn), h, e =>
    have e2 : (.inr (p, ls, ua A i v, nc, wn) : GST) = .inr (p', ls', A', nc', wn') := e
    cases e2
    have := h _ _ _ _ _ rfl
    rw [ua_n hi]; exact this
theorem HA.start {lim : Nat} (hr : nt (A k) < lim → row = nI (nt (A k))) (hl : lim < 1000) : HA (g_start k lim (.inr (p, ls, A, nc, wn))) k (nt (A k)) row := by
  intro p' ls' A' nc' wn' e
  have e2 : (if lim ≤ nt (A k) then (.inl (5, ls) : GST) else .inr (p, ls, ua A k (nI (nt (A k) + 1)), nc, wn)) = .inr (p', ls', A', nc', wn') := e
  split at e2
  · cases e2
  · cases e2
    exact ⟨hr (by omega), by rw [ua_s, nt_nI (by omega)]; omega⟩
/-- a new name's row -/
theorem HA.startN {t lim : Nat} (hr : nt (A t) < lim → row = nI (nt (A t))) (hl : lim < 1000) (hn : nc t = nt (A t)) : ∀ p' ls' A' nc' wn', g_start t lim (.inr (p, ls, A, nc, wn)) = .inr (p', ls', A', nc', wn') → row = nI (nc' t) ∧ nc' t < nt (A' t) := by
  intro p' ls' A' nc' wn' e
  have e2 : (if lim ≤ nt (A t) then (.inl (5, ls) : GST) else .inr (p, ls, ua A t (nI (nt (A t) + 1)), nc, wn)) = .inr (p', ls', A', nc', wn') := e
  split at e2
  · cases e2
  · cases e2
    exact ⟨by rw [hn]; exact hr (by omega), by rw [hn, ua_s, nt_nI (by omega)]; omega⟩
theorem g_num_lt {l1 l2 : Nat} : (g_num b n l1 l2 g).1 < 100 := by
  match g with
  | .inl e => show 0 < 100; decide
  | .inr (p, ls, A, nc, wn) =>
    show (if tk b n p = 2 then (if l1 ≤ tv b n p ∧ tv b n p ≤ l2 then (tv b n p, (.inr (te b n p, ts b n p, A, nc, wn) : GST)) else (tv b n p, .inl (3, ts b n p))) else (0, .inl (ek (tk b n p), ts b n p))).1 < 100
    split
    · have := tv_lt (b := b) (n := n) (p := p) (by assumption)
      split
      · exact this
      · exact this
    · show 0 < 100; decide
theorem pw0 : nI (2 ^ 0) = nI 1 := rfl
theorem pw1 : nI (2 ^ 1) = nI 2 := rfl
theorem pw2 : nI (2 ^ 2) = nI 4 := rfl

def g_field (b : Nat → Nat) (n c : Nat) (g : GST) : GST :=
  let g1 := g_start 0 8 g
  let g2 := g_new b n 0 g1
  let r3 := g_num b n 1 20 g2
  let r4 := g_num b n r3.1 (if 20 ≤ r3.1 + 8 then 20 else r3.1 + 8) r3.2
  let g5 := g_tok b n 3 r4.2
  let g6 := g_put (tb 0 + tS 0 * c + 0) (nI r3.1) g5
  g_put (tb 0 + tS 0 * c + 1) (nI r4.1) g6
theorem x5_field (h : CR μ d b n lo (.inr (p, ls, A, nc, wn))) (hn : nc 0 = nt (A 0)) : ∃ μ', F_X5_readField d μ = some μ' ∧ CR μ' d b n lo (g_field b n (nt (A 0)) (.inr (p, ls, A, nc, wn))) ∧ FR d μ μ' := by
  obtain ⟨row, μ1, e1, c1, f1, hr⟩ := gstart (k := 0) (t := d + 5 + 1 + 2 * 0) (by decide) (by omega) h
  have a1 := HA.start (p := p) (ls := ls) (A := A) (nc := nc) (wn := wn) (k := 0) (lim := 8) hr (by decide)
  have c1 : CR μ1 d b n lo (g_start 0 8 (.inr (p, ls, A, nc, wn))) := c1
  have n1 := HA.startN (p := p) (ls := ls) (A := A) (nc := nc) (wn := wn) (t := 0) (lim := 8) hr (by decide) hn
  have q0 := h.1.bd 0 (by decide)
  have q1 := c1.1.bd 0 (by decide)
  generalize hg1 : g_start 0 8 (.inr (p, ls, A, nc, wn)) = g1 at *
  obtain ⟨μ2, e2, c2, f2⟩ := gnew (t := 0) (row := row) (by decide) c1 n1
  rw [pw0] at e2
  have a2 := a1.new (b := b) (n := n) (t := 0)
  have q2 := c2.1.bd 0 (by decide)
  generalize hg2 : g_new b n 0 g1 = g2 at *
  obtain ⟨μ3, e3, c3, f3⟩ := gnum (l1 := 1) (l2 := 20) (by decide) (by decide) c2
  have v3 := g_num_lt (b := b) (n := n) (l1 := 1) (l2 := 20) (g := g2)
  have a3 := a2.num (b := b) (n := n) (l1 := 1) (l2 := 20)
  have q3 := c3.1.bd 0 (by decide)
  generalize hg3 : g_num b n 1 20 g2 = r3 at *
  obtain ⟨μ4, e4, c4, f4⟩ := gnum (l1 := r3.1) (l2 := if 20 ≤ r3.1 + 8 then 20 else r3.1 + 8) (by omega) (by split <;> omega) c3
  have a4 := a3.num (b := b) (n := n) (l1 := r3.1) (l2 := if 20 ≤ r3.1 + 8 then 20 else r3.1 + 8)
  have q4 := c4.1.bd 0 (by decide)
  generalize hg4 : g_num b n r3.1 (if 20 ≤ r3.1 + 8 then 20 else r3.1 + 8) r3.2 = r4 at *
  obtain ⟨μ5, e5, c5, f5⟩ := gsemi c4
  have a5 := a4.tok (b := b) (n := n) (kd := 3)
  have q5 := c5.1.bd 0 (by decide)
  generalize hg5 : g_tok b n 3 r4.2 = g5 at *
  obtain ⟨μ6, e6, c6, f6⟩ := gput (k := 0) (q := 0) (t := d + 5 + 1 + 2 * 0) (c := nt (A 0)) (row := row) (v := nI r3.1) (by decide) (by omega) (by decide) c5 a5
  have a6 := a5.put (i := tb 0 + tS 0 * nt (A 0) + 0) (v := nI r3.1) (by have := (tb_d 0 (by decide)).1.1; omega)
  have q6 := c6.1.bd 0 (by decide)
  generalize hg6 : g_put (tb 0 + tS 0 * nt (A 0) + 0) (nI r3.1) g5 = g6 at *
  obtain ⟨μ7, e7, c7, f7⟩ := gput (k := 0) (q := 1) (t := d + 5 + 1 + 2 * 0) (c := nt (A 0)) (row := row) (v := nI r4.1) (by decide) (by omega) (by decide) c6 a6
  have eF : F_X5_readField d μ = some μ7 := by
    clear h c1 c2 c3 c4 c5 c6 c7 f1 f2 f3 f4 f5 f6 f7 a1 a2 a3 a4 a5 a6 hr hn n1 hg1 hg2 hg3 hg4 hg5 hg6
    by_cases hx : 20 ≤ r3.1 + 8
    · rw [if_pos hx] at e4
      simp (disch := first | assumption | omega) only [q_bl, q_baT, q_bi, q_ba, q_pr, q_ob, q_iT, q_iN, q_it, q_if, q_of, nI_add, pk_mul, pk_sub, nI_leI, nI_ltI, nI_eq, nI_clamp, nI_lt0, nI_eqm, m1_eq, true_or, or_true, not_false_eq_true, m1_lt, m1_nlt, m1_le, m1_nle, b01, b011, q_em, q_m1, n_0, n_1, n_2, n_3, n_4, n_5, n_6, n_7, n_8, n_9, n_10, n_11, n_12, n_14, n_15, n_16, n_20, n_24, n_25, n_32, n_36, n_40, n_41, n_42, n_43, n_45, n_46, n_48, n_57, n_59, n_60, n_73, n_76, n_97, n_99, n_100, n_106, n_109, n_120, n_122, n_136, n_160, n_176, n_200, n_255, n_800, n_1000, n_1001, n_1002, n_1003, n_1006, n_1012, n_1018, n_1019, n_1020, n_1100, n_1140, n_4800, n_4920, n_5940, n_6740, n_20220, F_X5_readField, B_X5_readField_45, q0, q1, q2, q3, q4, q5, q6, e1, e2, e3, e4, e5, e6, e7, hx]
    · rw [if_neg hx] at e4
      simp (disch := first | assumption | omega) only [q_bl, q_baT, q_bi, q_ba, q_pr, q_ob, q_iT, q_iN, q_it, q_if, q_of, nI_add, pk_mul, pk_sub, nI_leI, nI_ltI, nI_eq, nI_clamp, nI_lt0, nI_eqm, m1_eq, true_or, or_true, not_false_eq_true, m1_lt, m1_nlt, m1_le, m1_nle, b01, b011, q_em, q_m1, n_0, n_1, n_2, n_3, n_4, n_5, n_6, n_7, n_8, n_9, n_10, n_11, n_12, n_14, n_15, n_16, n_20, n_24, n_25, n_32, n_36, n_40, n_41, n_42, n_43, n_45, n_46, n_48, n_57, n_59, n_60, n_73, n_76, n_97, n_99, n_100, n_106, n_109, n_120, n_122, n_136, n_160, n_176, n_200, n_255, n_800, n_1000, n_1001, n_1002, n_1003, n_1006, n_1012, n_1018, n_1019, n_1020, n_1100, n_1140, n_4800, n_4920, n_5940, n_6740, n_20220, F_X5_readField, B_X5_readField_45, q0, q1, q2, q3, q4, q5, q6, e1, e2, e3, e4, e5, e6, e7, hx]
  subst hg6 hg5 hg4 hg3 hg2 hg1
  exact ⟨μ7, eF, c7, f1.trans (f2.trans (f3.trans (f4.trans (f5.trans (f6.trans f7)))))⟩
def g_list (b : Nat → Nat) (n c : Nat) (g : GST) : GST :=
  let g1 := g_start 3 12 g
  let r2 := g_name b n 0 g1
  let g3 := g_put (tb 3 + tS 3 * c + 0) (nI r2.1) r2.2
  let r4 := g_num b n 1 40 g3
  let g5 := g_put (tb 3 + tS 3 * c + 1) (nI r4.1) r4.2
  g_tok b n 3 g5
theorem x5_list (h : CR μ d b n lo (.inr (p, ls, A, nc, wn))) : ∃ μ', F_X5_readList d μ = some μ' ∧ CR μ' d b n lo (g_list b n (nt (A 3)) (.inr (p, ls, A, nc, wn))) ∧ FR d μ μ' := by
  obtain ⟨row, μ1, e1, c1, f1, hr⟩ := gstart (k := 3) (t := d + 5 + 1 + 2 * 3) (by decide) (by omega) h
  have a1 := HA.start (p := p) (ls := ls) (A := A) (nc := nc) (wn := wn) (k := 3) (lim := 12) hr (by decide)
  have c1 : CR μ1 d b n lo (g_start 3 12 (.inr (p, ls, A, nc, wn))) := c1
  have q0 := h.1.bd 3 (by decide)
  have q1 := c1.1.bd 3 (by decide)
  generalize hg1 : g_start 3 12 (.inr (p, ls, A, nc, wn)) = g1 at *
  obtain ⟨μ2, e2, c2, f2⟩ := gname (t := 0) (by decide) c1
  rw [pw0] at e2
  have a2 := a1.name (b := b) (n := n) (t := 0)
  have q2 := c2.1.bd 3 (by decide)
  generalize hg2 : g_name b n 0 g1 = r2 at *
  obtain ⟨μ3, e3, c3, f3⟩ := gput (k := 3) (q := 0) (t := d + 5 + 1 + 2 * 3) (c := nt (A 3)) (row := row) (v := nI r2.1) (by decide) (by omega) (by decide) c2 a2
  have a3 := a2.put (i := tb 3 + tS 3 * nt (A 3) + 0) (v := nI r2.1) (by have := (tb_d 3 (by decide)).1.1; omega)
  have q3 := c3.1.bd 3 (by decide)
  generalize hg3 : g_put (tb 3 + tS 3 * nt (A 3) + 0) (nI r2.1) r2.2 = g3 at *
  obtain ⟨μ4, e4, c4, f4⟩ := gnum (l1 := 1) (l2 := 40) (by decide) (by decide) c3
  have a4 := a3.num (b := b) (n := n) (l1 := 1) (l2 := 40)
  have q4 := c4.1.bd 3 (by decide)
  generalize hg4 : g_num b n 1 40 g3 = r4 at *
  obtain ⟨μ5, e5, c5, f5⟩ := gput (k := 3) (q := 1) (t := d + 5 + 1 + 2 * 3) (c := nt (A 3)) (row := row) (v := nI r4.1) (by decide) (by omega) (by decide) c4 a4
  have a5 := a4.put (i := tb 3 + tS 3 * nt (A 3) + 1) (v := nI r4.1) (by have := (tb_d 3 (by decide)).1.1; omega)
  have q5 := c5.1.bd 3 (by decide)
  generalize hg5 : g_put (tb 3 + tS 3 * nt (A 3) + 1) (nI r4.1) r4.2 = g5 at *
  obtain ⟨μ6, e6, c6, f6⟩ := gsemi c5
  have eF : F_X5_readList d μ = some μ6 := by
    clear h c1 c2 c3 c4 c5 c6 f1 f2 f3 f4 f5 f6 a1 a2 a3 a4 a5 hr hg1 hg2 hg3 hg4 hg5
    simp (disch := first | assumption | omega) only [q_bl, q_baT, q_bi, q_ba, q_pr, q_ob, q_iT, q_iN, q_it, q_if, q_of, nI_add, pk_mul, pk_sub, nI_leI, nI_ltI, nI_eq, nI_clamp, nI_lt0, nI_eqm, m1_eq, true_or, or_true, not_false_eq_true, m1_lt, m1_nlt, m1_le, m1_nle, b01, b011, q_em, q_m1, n_0, n_1, n_2, n_3, n_4, n_5, n_6, n_7, n_8, n_9, n_10, n_11, n_12, n_14, n_15, n_16, n_20, n_24, n_25, n_32, n_36, n_40, n_41, n_42, n_43, n_45, n_46, n_48, n_57, n_59, n_60, n_73, n_76, n_97, n_99, n_100, n_106, n_109, n_120, n_122, n_136, n_160, n_176, n_200, n_255, n_800, n_1000, n_1001, n_1002, n_1003, n_1006, n_1012, n_1018, n_1019, n_1020, n_1100, n_1140, n_4800, n_4920, n_5940, n_6740, n_20220, F_X5_readList, q0, q1, q2, q3, q4, q5, e1, e2, e3, e4, e5, e6]
  subst hg5 hg4 hg3 hg2 hg1
  exact ⟨μ6, eF, c6, f1.trans (f2.trans (f3.trans (f4.trans (f5.trans (f6)))))⟩
def g_total (b : Nat → Nat) (n c : Nat) (g : GST) : GST :=
  let g1 := g_start 4 12 g
  let r2 := g_num b n 1 3 g1
  let g3 := g_put (tb 4 + tS 4 * c + 0) (nI r2.1) r2.2
  let r4 := g_name b n 2 g3
  let g5 := g_put (tb 4 + tS 4 * c + 1) (nI r4.1) r4.2
  let r6 := g_num b n 1 40 g5
  let g7 := g_put (tb 4 + tS 4 * c + 2) (nI r6.1) r6.2
  g_tok b n 3 g7
theorem x5_total (h : CR μ d b n lo (.inr (p, ls, A, nc, wn))) : ∃ μ', F_X5_readTotal d μ = some μ' ∧ CR μ' d b n lo (g_total b n (nt (A 4)) (.inr (p, ls, A, nc, wn))) ∧ FR d μ μ' := by
  obtain ⟨row, μ1, e1, c1, f1, hr⟩ := gstart (k := 4) (t := d + 5 + 1 + 2 * 4) (by decide) (by omega) h
  have a1 := HA.start (p := p) (ls := ls) (A := A) (nc := nc) (wn := wn) (k := 4) (lim := 12) hr (by decide)
  have c1 : CR μ1 d b n lo (g_start 4 12 (.inr (p, ls, A, nc, wn))) := c1
  have q0 := h.1.bd 4 (by decide)
  have q1 := c1.1.bd 4 (by decide)
  generalize hg1 : g_start 4 12 (.inr (p, ls, A, nc, wn)) = g1 at *
  obtain ⟨μ2, e2, c2, f2⟩ := gnum (l1 := 1) (l2 := 3) (by decide) (by decide) c1
  have a2 := a1.num (b := b) (n := n) (l1 := 1) (l2 := 3)
  have q2 := c2.1.bd 4 (by decide)
  generalize hg2 : g_num b n 1 3 g1 = r2 at *
  obtain ⟨μ3, e3, c3, f3⟩ := gput (k := 4) (q := 0) (t := d + 5 + 1 + 2 * 4) (c := nt (A 4)) (row := row) (v := nI r2.1) (by decide) (by omega) (by decide) c2 a2
  have a3 := a2.put (i := tb 4 + tS 4 * nt (A 4) + 0) (v := nI r2.1) (by have := (tb_d 4 (by decide)).1.1; omega)
  have q3 := c3.1.bd 4 (by decide)
  generalize hg3 : g_put (tb 4 + tS 4 * nt (A 4) + 0) (nI r2.1) r2.2 = g3 at *
  obtain ⟨μ4, e4, c4, f4⟩ := gname (t := 2) (by decide) c3
  rw [pw2] at e4
  have a4 := a3.name (b := b) (n := n) (t := 2)
  have q4 := c4.1.bd 4 (by decide)
  generalize hg4 : g_name b n 2 g3 = r4 at *
  obtain ⟨μ5, e5, c5, f5⟩ := gput (k := 4) (q := 1) (t := d + 5 + 1 + 2 * 4) (c := nt (A 4)) (row := row) (v := nI r4.1) (by decide) (by omega) (by decide) c4 a4
  have a5 := a4.put (i := tb 4 + tS 4 * nt (A 4) + 1) (v := nI r4.1) (by have := (tb_d 4 (by decide)).1.1; omega)
  have q5 := c5.1.bd 4 (by decide)
  generalize hg5 : g_put (tb 4 + tS 4 * nt (A 4) + 1) (nI r4.1) r4.2 = g5 at *
  obtain ⟨μ6, e6, c6, f6⟩ := gnum (l1 := 1) (l2 := 40) (by decide) (by decide) c5
  have a6 := a5.num (b := b) (n := n) (l1 := 1) (l2 := 40)
  have q6 := c6.1.bd 4 (by decide)
  generalize hg6 : g_num b n 1 40 g5 = r6 at *
  obtain ⟨μ7, e7, c7, f7⟩ := gput (k := 4) (q := 2) (t := d + 5 + 1 + 2 * 4) (c := nt (A 4)) (row := row) (v := nI r6.1) (by decide) (by omega) (by decide) c6 a6
  have a7 := a6.put (i := tb 4 + tS 4 * nt (A 4) + 2) (v := nI r6.1) (by have := (tb_d 4 (by decide)).1.1; omega)
  have q7 := c7.1.bd 4 (by decide)
  generalize hg7 : g_put (tb 4 + tS 4 * nt (A 4) + 2) (nI r6.1) r6.2 = g7 at *
  obtain ⟨μ8, e8, c8, f8⟩ := gsemi c7
  have eF : F_X5_readTotal d μ = some μ8 := by
    clear h c1 c2 c3 c4 c5 c6 c7 c8 f1 f2 f3 f4 f5 f6 f7 f8 a1 a2 a3 a4 a5 a6 a7 hr hg1 hg2 hg3 hg4 hg5 hg6 hg7
    simp (disch := first | assumption | omega) only [q_bl, q_baT, q_bi, q_ba, q_pr, q_ob, q_iT, q_iN, q_it, q_if, q_of, nI_add, pk_mul, pk_sub, nI_leI, nI_ltI, nI_eq, nI_clamp, nI_lt0, nI_eqm, m1_eq, true_or, or_true, not_false_eq_true, m1_lt, m1_nlt, m1_le, m1_nle, b01, b011, q_em, q_m1, n_0, n_1, n_2, n_3, n_4, n_5, n_6, n_7, n_8, n_9, n_10, n_11, n_12, n_14, n_15, n_16, n_20, n_24, n_25, n_32, n_36, n_40, n_41, n_42, n_43, n_45, n_46, n_48, n_57, n_59, n_60, n_73, n_76, n_97, n_99, n_100, n_106, n_109, n_120, n_122, n_136, n_160, n_176, n_200, n_255, n_800, n_1000, n_1001, n_1002, n_1003, n_1006, n_1012, n_1018, n_1019, n_1020, n_1100, n_1140, n_4800, n_4920, n_5940, n_6740, n_20220, F_X5_readTotal, q0, q1, q2, q3, q4, q5, q6, q7, e1, e2, e3, e4, e5, e6, e7, e8]
  subst hg7 hg6 hg5 hg4 hg3 hg2 hg1
  exact ⟨μ8, eF, c8, f1.trans (f2.trans (f3.trans (f4.trans (f5.trans (f6.trans (f7.trans (f8)))))))⟩
def g_roll (b : Nat → Nat) (n c : Nat) (g : GST) : GST :=
  let g1 := g_start 5 8 g
  let r2 := g_num b n 1 3 g1
  let g3 := g_put (tb 5 + tS 5 * c + 0) (nI r2.1) r2.2
  let r4 := g_name b n 2 g3
  let g5 := g_put (tb 5 + tS 5 * c + 1) (nI r4.1) r4.2
  let r6 := g_name b n 2 g5
  let g7 := g_put (tb 5 + tS 5 * c + 2) (nI r6.1) r6.2
  g_tok b n 3 g7
theorem x5_roll (h : CR μ d b n lo (.inr (p, ls, A, nc, wn))) : ∃ μ', F_X5_readRoll d μ = some μ' ∧ CR μ' d b n lo (g_roll b n (nt (A 5)) (.inr (p, ls, A, nc, wn))) ∧ FR d μ μ' := by
  obtain ⟨row, μ1, e1, c1, f1, hr⟩ := gstart (k := 5) (t := d + 5 + 1 + 2 * 5) (by decide) (by omega) h
  have a1 := HA.start (p := p) (ls := ls) (A := A) (nc := nc) (wn := wn) (k := 5) (lim := 8) hr (by decide)
  have c1 : CR μ1 d b n lo (g_start 5 8 (.inr (p, ls, A, nc, wn))) := c1
  have q0 := h.1.bd 5 (by decide)
  have q1 := c1.1.bd 5 (by decide)
  generalize hg1 : g_start 5 8 (.inr (p, ls, A, nc, wn)) = g1 at *
  obtain ⟨μ2, e2, c2, f2⟩ := gnum (l1 := 1) (l2 := 3) (by decide) (by decide) c1
  have a2 := a1.num (b := b) (n := n) (l1 := 1) (l2 := 3)
  have q2 := c2.1.bd 5 (by decide)
  generalize hg2 : g_num b n 1 3 g1 = r2 at *
  obtain ⟨μ3, e3, c3, f3⟩ := gput (k := 5) (q := 0) (t := d + 5 + 1 + 2 * 5) (c := nt (A 5)) (row := row) (v := nI r2.1) (by decide) (by omega) (by decide) c2 a2
  have a3 := a2.put (i := tb 5 + tS 5 * nt (A 5) + 0) (v := nI r2.1) (by have := (tb_d 5 (by decide)).1.1; omega)
  have q3 := c3.1.bd 5 (by decide)
  generalize hg3 : g_put (tb 5 + tS 5 * nt (A 5) + 0) (nI r2.1) r2.2 = g3 at *
  obtain ⟨μ4, e4, c4, f4⟩ := gname (t := 2) (by decide) c3
  rw [pw2] at e4
  have a4 := a3.name (b := b) (n := n) (t := 2)
  have q4 := c4.1.bd 5 (by decide)
  generalize hg4 : g_name b n 2 g3 = r4 at *
  obtain ⟨μ5, e5, c5, f5⟩ := gput (k := 5) (q := 1) (t := d + 5 + 1 + 2 * 5) (c := nt (A 5)) (row := row) (v := nI r4.1) (by decide) (by omega) (by decide) c4 a4
  have a5 := a4.put (i := tb 5 + tS 5 * nt (A 5) + 1) (v := nI r4.1) (by have := (tb_d 5 (by decide)).1.1; omega)
  have q5 := c5.1.bd 5 (by decide)
  generalize hg5 : g_put (tb 5 + tS 5 * nt (A 5) + 1) (nI r4.1) r4.2 = g5 at *
  obtain ⟨μ6, e6, c6, f6⟩ := gname (t := 2) (by decide) c5
  rw [pw2] at e6
  have a6 := a5.name (b := b) (n := n) (t := 2)
  have q6 := c6.1.bd 5 (by decide)
  generalize hg6 : g_name b n 2 g5 = r6 at *
  obtain ⟨μ7, e7, c7, f7⟩ := gput (k := 5) (q := 2) (t := d + 5 + 1 + 2 * 5) (c := nt (A 5)) (row := row) (v := nI r6.1) (by decide) (by omega) (by decide) c6 a6
  have a7 := a6.put (i := tb 5 + tS 5 * nt (A 5) + 2) (v := nI r6.1) (by have := (tb_d 5 (by decide)).1.1; omega)
  have q7 := c7.1.bd 5 (by decide)
  generalize hg7 : g_put (tb 5 + tS 5 * nt (A 5) + 2) (nI r6.1) r6.2 = g7 at *
  obtain ⟨μ8, e8, c8, f8⟩ := gsemi c7
  have eF : F_X5_readRoll d μ = some μ8 := by
    clear h c1 c2 c3 c4 c5 c6 c7 c8 f1 f2 f3 f4 f5 f6 f7 f8 a1 a2 a3 a4 a5 a6 a7 hr hg1 hg2 hg3 hg4 hg5 hg6 hg7
    simp (disch := first | assumption | omega) only [q_bl, q_baT, q_bi, q_ba, q_pr, q_ob, q_iT, q_iN, q_it, q_if, q_of, nI_add, pk_mul, pk_sub, nI_leI, nI_ltI, nI_eq, nI_clamp, nI_lt0, nI_eqm, m1_eq, true_or, or_true, not_false_eq_true, m1_lt, m1_nlt, m1_le, m1_nle, b01, b011, q_em, q_m1, n_0, n_1, n_2, n_3, n_4, n_5, n_6, n_7, n_8, n_9, n_10, n_11, n_12, n_14, n_15, n_16, n_20, n_24, n_25, n_32, n_36, n_40, n_41, n_42, n_43, n_45, n_46, n_48, n_57, n_59, n_60, n_73, n_76, n_97, n_99, n_100, n_106, n_109, n_120, n_122, n_136, n_160, n_176, n_200, n_255, n_800, n_1000, n_1001, n_1002, n_1003, n_1006, n_1012, n_1018, n_1019, n_1020, n_1100, n_1140, n_4800, n_4920, n_5940, n_6740, n_20220, F_X5_readRoll, q0, q1, q2, q3, q4, q5, q6, q7, e1, e2, e3, e4, e5, e6, e7, e8]
  subst hg7 hg6 hg5 hg4 hg3 hg2 hg1
  exact ⟨μ8, eF, c8, f1.trans (f2.trans (f3.trans (f4.trans (f5.trans (f6.trans (f7.trans (f8)))))))⟩
def g_clear (b : Nat → Nat) (n c : Nat) (g : GST) : GST :=
  let g1 := g_start 6 8 g
  let r2 := g_num b n 1 3 g1
  let g3 := g_put (tb 6 + tS 6 * c + 0) (nI r2.1) r2.2
  let r4 := g_name b n 2 g3
  let g5 := g_put (tb 6 + tS 6 * c + 1) (nI r4.1) r4.2
  g_tok b n 3 g5
theorem x5_clear (h : CR μ d b n lo (.inr (p, ls, A, nc, wn))) : ∃ μ', F_X5_readClear d μ = some μ' ∧ CR μ' d b n lo (g_clear b n (nt (A 6)) (.inr (p, ls, A, nc, wn))) ∧ FR d μ μ' := by
  obtain ⟨row, μ1, e1, c1, f1, hr⟩ := gstart (k := 6) (t := d + 5 + 1 + 2 * 6) (by decide) (by omega) h
  have a1 := HA.start (p := p) (ls := ls) (A := A) (nc := nc) (wn := wn) (k := 6) (lim := 8) hr (by decide)
  have c1 : CR μ1 d b n lo (g_start 6 8 (.inr (p, ls, A, nc, wn))) := c1
  have q0 := h.1.bd 6 (by decide)
  have q1 := c1.1.bd 6 (by decide)
  generalize hg1 : g_start 6 8 (.inr (p, ls, A, nc, wn)) = g1 at *
  obtain ⟨μ2, e2, c2, f2⟩ := gnum (l1 := 1) (l2 := 3) (by decide) (by decide) c1
  have a2 := a1.num (b := b) (n := n) (l1 := 1) (l2 := 3)
  have q2 := c2.1.bd 6 (by decide)
  generalize hg2 : g_num b n 1 3 g1 = r2 at *
  obtain ⟨μ3, e3, c3, f3⟩ := gput (k := 6) (q := 0) (t := d + 5 + 1 + 2 * 6) (c := nt (A 6)) (row := row) (v := nI r2.1) (by decide) (by omega) (by decide) c2 a2
  have a3 := a2.put (i := tb 6 + tS 6 * nt (A 6) + 0) (v := nI r2.1) (by have := (tb_d 6 (by decide)).1.1; omega)
  have q3 := c3.1.bd 6 (by decide)
  generalize hg3 : g_put (tb 6 + tS 6 * nt (A 6) + 0) (nI r2.1) r2.2 = g3 at *
  obtain ⟨μ4, e4, c4, f4⟩ := gname (t := 2) (by decide) c3
  rw [pw2] at e4
  have a4 := a3.name (b := b) (n := n) (t := 2)
  have q4 := c4.1.bd 6 (by decide)
  generalize hg4 : g_name b n 2 g3 = r4 at *
  obtain ⟨μ5, e5, c5, f5⟩ := gput (k := 6) (q := 1) (t := d + 5 + 1 + 2 * 6) (c := nt (A 6)) (row := row) (v := nI r4.1) (by decide) (by omega) (by decide) c4 a4
  have a5 := a4.put (i := tb 6 + tS 6 * nt (A 6) + 1) (v := nI r4.1) (by have := (tb_d 6 (by decide)).1.1; omega)
  have q5 := c5.1.bd 6 (by decide)
  generalize hg5 : g_put (tb 6 + tS 6 * nt (A 6) + 1) (nI r4.1) r4.2 = g5 at *
  obtain ⟨μ6, e6, c6, f6⟩ := gsemi c5
  have eF : F_X5_readClear d μ = some μ6 := by
    clear h c1 c2 c3 c4 c5 c6 f1 f2 f3 f4 f5 f6 a1 a2 a3 a4 a5 hr hg1 hg2 hg3 hg4 hg5
    simp (disch := first | assumption | omega) only [q_bl, q_baT, q_bi, q_ba, q_pr, q_ob, q_iT, q_iN, q_it, q_if, q_of, nI_add, pk_mul, pk_sub, nI_leI, nI_ltI, nI_eq, nI_clamp, nI_lt0, nI_eqm, m1_eq, true_or, or_true, not_false_eq_true, m1_lt, m1_nlt, m1_le, m1_nle, b01, b011, q_em, q_m1, n_0, n_1, n_2, n_3, n_4, n_5, n_6, n_7, n_8, n_9, n_10, n_11, n_12, n_14, n_15, n_16, n_20, n_24, n_25, n_32, n_36, n_40, n_41, n_42, n_43, n_45, n_46, n_48, n_57, n_59, n_60, n_73, n_76, n_97, n_99, n_100, n_106, n_109, n_120, n_122, n_136, n_160, n_176, n_200, n_255, n_800, n_1000, n_1001, n_1002, n_1003, n_1006, n_1012, n_1018, n_1019, n_1020, n_1100, n_1140, n_4800, n_4920, n_5940, n_6740, n_20220, F_X5_readClear, q0, q1, q2, q3, q4, q5, e1, e2, e3, e4, e5, e6]
  subst hg5 hg4 hg3 hg2 hg1
  exact ⟨μ6, eF, c6, f1.trans (f2.trans (f3.trans (f4.trans (f5.trans (f6)))))⟩
def g_selector (b : Nat → Nat) (n c : Nat) (g : GST) : GST :=
  let g1 := g_start 1 6 g
  let g2 := g_new b n 1 g1
  let r3 := g_num b n 1 20 g2
  let g4 := g_put (tb 1 + tS 1 * c + 0) (nI r3.1) r3.2
  let r5 := g_num b n 0 10 g4
  let g6 := g_put (tb 1 + tS 1 * c + 1) (nI r5.1) r5.2
  let r7 := g_opt b n g6
  if r7.1 = 12 then g_tok b n 3 (g_put (tb 1 + tS 1 * c + 2) (nI 1) r7.2) else if r7.1 = 0 then r7.2 else g_fail 2 r7.2
theorem x5_selector (h : CR μ d b n lo (.inr (p, ls, A, nc, wn))) (hn : nc 1 = nt (A 1)) : ∃ μ', F_X5_readSelector d μ = some μ' ∧ CR μ' d b n lo (g_selector b n (nt (A 1)) (.inr (p, ls, A, nc, wn))) ∧ FR d μ μ' := by
  obtain ⟨row, μ1, e1, c1, f1, hr⟩ := gstart (k := 1) (t := d + 5 + 1 + 2 * 1) (by decide) (by omega) h
  have a1 := HA.start (p := p) (ls := ls) (A := A) (nc := nc) (wn := wn) (k := 1) (lim := 6) hr (by decide)
  have c1 : CR μ1 d b n lo (g_start 1 6 (.inr (p, ls, A, nc, wn))) := c1
  have n1 := HA.startN (p := p) (ls := ls) (A := A) (nc := nc) (wn := wn) (t := 1) (lim := 6) hr (by decide) hn
  have q0 := h.1.bd 1 (by decide)
  have q1 := c1.1.bd 1 (by decide)
  generalize hg1 : g_start 1 6 (.inr (p, ls, A, nc, wn)) = g1 at *
  obtain ⟨μ2, e2, c2, f2⟩ := gnew (t := 1) (row := row) (by decide) c1 n1
  rw [pw1] at e2
  have a2 := a1.new (b := b) (n := n) (t := 1)
  have q2 := c2.1.bd 1 (by decide)
  generalize hg2 : g_new b n 1 g1 = g2 at *
  obtain ⟨μ3, e3, c3, f3⟩ := gnum (l1 := 1) (l2 := 20) (by decide) (by decide) c2
  have a3 := a2.num (b := b) (n := n) (l1 := 1) (l2 := 20)
  have q3 := c3.1.bd 1 (by decide)
  generalize hg3 : g_num b n 1 20 g2 = r3 at *
  obtain ⟨μ4, e4, c4, f4⟩ := gput (k := 1) (q := 0) (t := d + 5 + 1 + 2 * 1) (c := nt (A 1)) (row := row) (v := nI r3.1) (by decide) (by omega) (by decide) c3 a3
  have a4 := a3.put (i := tb 1 + tS 1 * nt (A 1) + 0) (v := nI r3.1) (by have := (tb_d 1 (by decide)).1.1; omega)
  have q4 := c4.1.bd 1 (by decide)
  generalize hg4 : g_put (tb 1 + tS 1 * nt (A 1) + 0) (nI r3.1) r3.2 = g4 at *
  obtain ⟨μ5, e5, c5, f5⟩ := gnum (l1 := 0) (l2 := 10) (by decide) (by decide) c4
  have a5 := a4.num (b := b) (n := n) (l1 := 0) (l2 := 10)
  have q5 := c5.1.bd 1 (by decide)
  generalize hg5 : g_num b n 0 10 g4 = r5 at *
  obtain ⟨μ6, e6, c6, f6⟩ := gput (k := 1) (q := 1) (t := d + 5 + 1 + 2 * 1) (c := nt (A 1)) (row := row) (v := nI r5.1) (by decide) (by omega) (by decide) c5 a5
  have a6 := a5.put (i := tb 1 + tS 1 * nt (A 1) + 1) (v := nI r5.1) (by have := (tb_d 1 (by decide)).1.1; omega)
  have q6 := c6.1.bd 1 (by decide)
  generalize hg6 : g_put (tb 1 + tS 1 * nt (A 1) + 1) (nI r5.1) r5.2 = g6 at *
  obtain ⟨μ7, e7, c7, f7, w7⟩ := gopt c6
  have a7 := a6.opt (b := b) (n := n)
  have q7 := c7.1.bd 1 (by decide)
  have eG : g_selector b n (nt (A 1)) (.inr (p, ls, A, nc, wn)) = if (g_opt b n g6).1 = 12 then g_tok b n 3 (g_put (tb 1 + tS 1 * nt (A 1) + 2) (nI 1) (g_opt b n g6).2) else if (g_opt b n g6).1 = 0 then (g_opt b n g6).2 else g_fail 2 (g_opt b n g6).2 := by subst hg6 hg5 hg4 hg3 hg2 hg1; rfl
  rw [eG]
  generalize g_opt b n g6 = r7 at *
  by_cases h12 : r7.1 = 12
  · rw [if_pos h12]
    obtain ⟨μa, ea, ca, fa⟩ := gput (k := 1) (q := 2) (t := d + 5 + 1 + 2 * 1) (c := nt (A 1)) (row := row) (v := nI 1) (by decide) (by omega) (by decide) c7 a7
    obtain ⟨μb, eb, cb, fb⟩ := gsemi ca
    have qa := ca.1.bd 1 (by decide)
    refine ⟨μb, ?_, cb, f1.trans (f2.trans (f3.trans (f4.trans (f5.trans (f6.trans (f7.trans (fa.trans (fb))))))))⟩
    clear h c1 c2 c3 c4 c5 c6 c7 f1 f2 f3 f4 f5 f6 f7 a1 a2 a3 a4 a5 a6 a7 hr hn n1 eG hg1 hg2 hg3 hg4 hg5 hg6 ca cb fa fb
    simp (disch := first | assumption | omega) only [q_bl, q_baT, q_bi, q_ba, q_pr, q_ob, q_iT, q_iN, q_it, q_if, q_of, nI_add, pk_mul, pk_sub, nI_leI, nI_ltI, nI_eq, nI_clamp, nI_lt0, nI_eqm, m1_eq, true_or, or_true, not_false_eq_true, m1_lt, m1_nlt, m1_le, m1_nle, b01, b011, q_em, q_m1, n_0, n_1, n_2, n_3, n_4, n_5, n_6, n_7, n_8, n_9, n_10, n_11, n_12, n_14, n_15, n_16, n_20, n_24, n_25, n_32, n_36, n_40, n_41, n_42, n_43, n_45, n_46, n_48, n_57, n_59, n_60, n_73, n_76, n_97, n_99, n_100, n_106, n_109, n_120, n_122, n_136, n_160, n_176, n_200, n_255, n_800, n_1000, n_1001, n_1002, n_1003, n_1006, n_1012, n_1018, n_1019, n_1020, n_1100, n_1140, n_4800, n_4920, n_5940, n_6740, n_20220, F_X5_readSelector, q0, q1, q2, q3, q4, q5, q6, q7, e1, e2, e3, e4, e5, e6, e7, h12, ea, qa, eb]
  · rw [if_neg h12]
    by_cases h0 : r7.1 = 0
    · rw [if_pos h0]
      refine ⟨μ7, ?_, c7, f1.trans (f2.trans (f3.trans (f4.trans (f5.trans (f6.trans (f7))))))⟩
      clear h c1 c2 c3 c4 c5 c6 c7 f1 f2 f3 f4 f5 f6 f7 a1 a2 a3 a4 a5 a6 a7 hr hn n1 eG hg1 hg2 hg3 hg4 hg5 hg6
      have z0 : ¬ (0 : Nat) = 12 := by decide
      simp (disch := first | assumption | omega) only [q_bl, q_baT, q_bi, q_ba, q_pr, q_ob, q_iT, q_iN, q_it, q_if, q_of, nI_add, pk_mul, pk_sub, nI_leI, nI_ltI, nI_eq, nI_clamp, nI_lt0, nI_eqm, m1_eq, true_or, or_true, not_false_eq_true, m1_lt, m1_nlt, m1_le, m1_nle, b01, b011, q_em, q_m1, n_0, n_1, n_2, n_3, n_4, n_5, n_6, n_7, n_8, n_9, n_10, n_11, n_12, n_14, n_15, n_16, n_20, n_24, n_25, n_32, n_36, n_40, n_41, n_42, n_43, n_45, n_46, n_48, n_57, n_59, n_60, n_73, n_76, n_97, n_99, n_100, n_106, n_109, n_120, n_122, n_136, n_160, n_176, n_200, n_255, n_800, n_1000, n_1001, n_1002, n_1003, n_1006, n_1012, n_1018, n_1019, n_1020, n_1100, n_1140, n_4800, n_4920, n_5940, n_6740, n_20220, F_X5_readSelector, q0, q1, q2, q3, q4, q5, q6, q7, e1, e2, e3, e4, e5, e6, e7, h0, z0]
    · rw [if_neg h0]
      obtain ⟨μa, ea, ca, fa⟩ := gfail (k := 2) c7 (by decide) (by decide)
      refine ⟨μa, ?_, ca, f1.trans (f2.trans (f3.trans (f4.trans (f5.trans (f6.trans (f7.trans (fa)))))))⟩
      clear h c1 c2 c3 c4 c5 c6 c7 f1 f2 f3 f4 f5 f6 f7 a1 a2 a3 a4 a5 a6 a7 hr hn n1 eG hg1 hg2 hg3 hg4 hg5 hg6 ca fa
      simp (disch := first | assumption | omega) only [q_bl, q_baT, q_bi, q_ba, q_pr, q_ob, q_iT, q_iN, q_it, q_if, q_of, nI_add, pk_mul, pk_sub, nI_leI, nI_ltI, nI_eq, nI_clamp, nI_lt0, nI_eqm, m1_eq, true_or, or_true, not_false_eq_true, m1_lt, m1_nlt, m1_le, m1_nle, b01, b011, q_em, q_m1, n_0, n_1, n_2, n_3, n_4, n_5, n_6, n_7, n_8, n_9, n_10, n_11, n_12, n_14, n_15, n_16, n_20, n_24, n_25, n_32, n_36, n_40, n_41, n_42, n_43, n_45, n_46, n_48, n_57, n_59, n_60, n_73, n_76, n_97, n_99, n_100, n_106, n_109, n_120, n_122, n_136, n_160, n_176, n_200, n_255, n_800, n_1000, n_1001, n_1002, n_1003, n_1006, n_1012, n_1018, n_1019, n_1020, n_1100, n_1140, n_4800, n_4920, n_5940, n_6740, n_20220, F_X5_readSelector, q0, q1, q2, q3, q4, q5, q6, q7, e1, e2, e3, e4, e5, e6, e7, w7, h12, h0, ea]
end STM

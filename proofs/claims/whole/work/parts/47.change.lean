/-! LAYER 3: what changes of plugboard and deck do to the rows -/
/-- another deck -/
theorem wb_deck {A B : SA} (h : WB A) (e : ∀ i, i < 200 → ¬ i = 8 → B i = A i) (h8 : isN (B 8) 0 40) (hl : ∀ i k, i < nt (B 8) → 1 ≤ k → k ≤ 20 → lc (B (200 + 20 * i + k - 1))) : WB B := by
  have b0 := h.c0.2
  have b1 := h.c1.2
  have b2 := h.c2.2
  have b3 := h.c3.2
  have b4 := h.c4.2
  have b5 := h.c5.2
  have b6 := h.c6.2
  have b7 := h.c7.2
  obtain ⟨g0, g1, g2, g3, g4, g5, g6, g7, g8, h9, h10, h11, h12, h13, h14, h15, h16, h17, h18⟩ := h
  unfold WB fr
  rw [e 0 (by decide) (by decide), e 1 (by decide) (by decide), e 2 (by decide) (by decide), e 3 (by decide) (by decide), e 4 (by decide) (by decide), e 5 (by decide) (by decide), e 6 (by decide) (by decide), e 7 (by decide) (by decide)]
  refine ⟨g0, g1, g2, g3, g4, g5, g6, g7, h8, fun i hi => ?_, fun i hi => ?_, fun i hi => ?_, fun i hi hi2 => ?_, fun i hi => ?_, fun i hi => ?_, fun i hi => ?_, fun i hi => ?_, fun i hi => ?_, hl⟩
  · have := h9 i hi; simp (disch := omega) only [e]; exact this
  · have := h10 i hi; simp (disch := omega) only [e]; exact this
  · have := h11 i hi; simp (disch := omega) only [e]; exact this
  · have := h12 i hi hi2; simp (disch := omega) only [e]; exact this
  · have := h13 i hi; simp (disch := omega) only [e]; exact this
  · have := h14 i hi; simp (disch := omega) only [e]; exact this
  · have := h15 i hi; simp (disch := omega) only [e]; exact this
  · have := h16 i hi; simp (disch := omega) only [e]; exact this
  · have := h17 i hi; simp (disch := omega) only [e]; exact this
def pokc (B : SA) (i : Nat) : Prop := isN (B (43 + 5 * i)) 1 9 ∧ (isN (B (43 + 5 * i + 1)) 0 7 ∧ nt (B (43 + 5 * i + 1)) < nt (B 0)) ∧ isN (B (43 + 5 * i + 2)) 0 2 ∧ (B (43 + 5 * i + 3) = -nI 1 ∨ (isN (B (43 + 5 * i + 3)) 0 5 ∧ nt (B (43 + 5 * i + 3)) < nt (B 1))) ∧ isN (B (43 + 5 * i + 4)) 0 1
def pokl (B : SA) (l : Nat) : Prop := B (73 + l - 1) = -nI 1 ∨ (isN (B (73 + l - 1)) 0 7 ∧ nt (B (73 + l - 1)) < nt (B 0))
theorem WB.oc {A : SA} (h : WB A) {i : Nat} (hi : i < nt (A 2)) : pokc A i := h.2.2.2.2.2.2.2.2.2.2.2.1 i hi
theorem WB.ol {A : SA} (h : WB A) {l : Nat} (h1 : 1 ≤ l) (h2 : l ≤ 3) : pokl A l := h.2.2.2.2.2.2.2.2.2.2.2.2.1 l h1 h2
/-- other plugs of counters and controls -/
theorem wb_plug {A B : SA} (h : WB A) (e : ∀ i, ¬ (43 ≤ i ∧ i < 76) → B i = A i) (hc : ∀ i, i < nt (A 2) → pokc B i) (hl : ∀ l, 1 ≤ l → l ≤ 3 → pokl B l) : WB B := by
  have b0 := h.c0.2
  have b1 := h.c1.2
  have b2 := h.c2.2
  have b3 := h.c3.2
  have b4 := h.c4.2
  have b5 := h.c5.2
  have b6 := h.c6.2
  have b7 := h.c7.2
  have b8 := h.c8.2
  obtain ⟨g0, g1, g2, g3, g4, g5, g6, g7, g8, h9, h10, h11, h12, h13, h14, h15, h16, h17, h18⟩ := h
  have e0 := e 0 (by decide)
  have e1 := e 1 (by decide)
  have e2 := e 2 (by decide)
  have e3 := e 3 (by decide)
  have e4 := e 4 (by decide)
  have e5 := e 5 (by decide)
  have e6 := e 6 (by decide)
  have e7 := e 7 (by decide)
  have e8 := e 8 (by decide)
  refine ⟨e0 ▸ g0, e1 ▸ g1, e2 ▸ g2, e3 ▸ g3, e4 ▸ g4, e5 ▸ g5, e6 ▸ g6, e7 ▸ g7, e8 ▸ g8, fun i hi => ?_, fun i hi => ?_, fun i hi => ?_, fun i hi hi2 => ?_, fun i hi => ?_, fun i hi => ?_, fun i hi => ?_, fun i hi => ?_, fun i hi => ?_, fun i k hi hk1 hk2 => ?_⟩
  · rw [e0] at hi; have := h9 i hi; unfold fr; simp (disch := omega) only [e]; exact this
  · rw [e1] at hi; have := h10 i hi; simp (disch := omega) only [e]; exact this
  · rw [e2] at hi; exact hc i hi
  · exact hl i hi hi2
  · rw [e3] at hi; have := h13 i hi; simp (disch := omega) only [e]; exact this
  · rw [e4] at hi; have := h14 i hi; simp (disch := omega) only [e]; exact this
  · rw [e5] at hi; have := h15 i hi; simp (disch := omega) only [e]; exact this
  · rw [e6] at hi; have := h16 i hi; simp (disch := omega) only [e]; exact this
  · rw [e7] at hi; have := h17 i hi; simp (disch := omega) only [e]; exact this
  · rw [e8] at hi; have := h18 i k hi hk1 hk2; simp (disch := omega) only [e]; exact this
-- the class's side
theorem RT.same {I I' : Nat → SA} {t k base stride : Nat} {A B : SA} (h : RT I t A k base stride) (e1 : I' t = I t) (e2 : I' (t + 1) = I (t + 1)) (hk : B k = A k) (e : ∀ i j, i < nt (A k) → j < stride → B (base + stride * i + j) = A (base + stride * i + j)) : RT I' t B k base stride := by
  unfold RT
  rw [e1, e2, hk]
  exact ⟨h.1, fun i j hi hj => by rw [e i j hi hj]; exact h.2 i j hi hj⟩
/-- another deck under the same plugboard -/
theorem RB.deck {I I' : Nat → SA} {r : Nat} {A B : SA} (h : RB I r A) (w : WB A) (eI : ∀ a, r + 2 ≤ a → a ≤ r + 18 → I' a = I a) (e : ∀ i, i < 200 → ¬ i = 8 → B i = A i) : RB I' r B := by
  have b0 := w.c0.2
  have b1 := w.c1.2
  have b2 := w.c2.2
  have b3 := w.c3.2
  have b4 := w.c4.2
  have b5 := w.c5.2
  have b6 := w.c6.2
  have b7 := w.c7.2
  obtain ⟨h0, h1, h2, h3, h4, h5, h6, h7, h8⟩ := h
  refine ⟨h0.same (eI _ (by omega) (by omega)) (eI _ (by omega) (by omega)) (e _ (by decide) (by decide)) (fun i j hi hj => e _ (by omega) (by omega)), h1.same (eI _ (by omega) (by omega)) (eI _ (by omega) (by omega)) (e _ (by decide) (by decide)) (fun i j hi hj => e _ (by omega) (by omega)), h2.same (eI _ (by omega) (by omega)) (eI _ (by omega) (by omega)) (e _ (by decide) (by decide)) (fun i j hi hj => e _ (by omega) (by omega)), h3.same (eI _ (by omega) (by omega)) (eI _ (by omega) (by omega)) (e _ (by decide) (by decide)) (fun i j hi hj => e _ (by omega) (by omega)), h4.same (eI _ (by omega) (by omega)) (eI _ (by omega) (by omega)) (e _ (by decide) (by decide)) (fun i j hi hj => e _ (by omega) (by omega)), h5.same (eI _ (by omega) (by omega)) (eI _ (by omega) (by omega)) (e _ (by decide) (by decide)) (fun i j hi hj => e _ (by omega) (by omega)), h6.same (eI _ (by omega) (by omega)) (eI _ (by omega) (by omega)) (e _ (by decide) (by decide)) (fun i j hi hj => e _ (by omega) (by omega)), ?_, fun l l1 l2 => by rw [eI _ (by omega) (by omega), e _ (by omega) (by omega)]; exact h8 l l1 l2⟩
  unfold RT7
  rw [eI _ (by omega) (by omega), eI _ (by omega) (by omega), e 7 (by decide) (by decide)]
  refine ⟨h7.1, fun i hi => ?_⟩
  have := h7.2 i hi
  rw [e (176 + 3 * i) (by omega) (by omega), e (176 + 3 * i + 1) (by omega) (by omega), e (176 + 3 * i + 2) (by omega) (by omega)]
  exact this
/-- other plugs of counters and controls -/
theorem RB.plug {I I' : Nat → SA} {r : Nat} {A B : SA} (h : RB I r A) (w : WB A) (eI : ∀ a, r + 2 ≤ a → a < r + 18 → ¬ a = r + 7 → I' a = I a) (e : ∀ i, ¬ (43 ≤ i ∧ i < 76) → B i = A i) (hc : ∀ i j, i < nt (A 2) → j < 5 → I' (r + 7) (i * 5 + j) = B (43 + 5 * i + j)) (hl : ∀ l, 1 ≤ l → l ≤ 3 → I' (r + 18) l = B (73 + l - 1)) : RB I' r B := by
  have b0 := w.c0.2
  have b1 := w.c1.2
  have b2 := w.c2.2
  have b3 := w.c3.2
  have b4 := w.c4.2
  have b5 := w.c5.2
  have b6 := w.c6.2
  have b7 := w.c7.2
  obtain ⟨h0, h1, h2, h3, h4, h5, h6, h7, h8⟩ := h
  refine ⟨h0.same (eI _ (by omega) (by omega) (by omega)) (eI _ (by omega) (by omega) (by omega)) (e _ (by decide)) (fun i j hi hj => e _ (by omega)), h1.same (eI _ (by omega) (by omega) (by omega)) (eI _ (by omega) (by omega) (by omega)) (e _ (by decide)) (fun i j hi hj => e _ (by omega)), ⟨by rw [eI _ (by omega) (by omega) (by omega), e 2 (by decide)]; exact h2.1, fun i j hi hj => by rw [e 2 (by decide)] at hi; exact hc i j hi hj⟩, h3.same (eI _ (by omega) (by omega) (by omega)) (eI _ (by omega) (by omega) (by omega)) (e _ (by decide)) (fun i j hi hj => e _ (by omega)), h4.same (eI _ (by omega) (by omega) (by omega)) (eI _ (by omega) (by omega) (by omega)) (e _ (by decide)) (fun i j hi hj => e _ (by omega)), h5.same (eI _ (by omega) (by omega) (by omega)) (eI _ (by omega) (by omega) (by omega)) (e _ (by decide)) (fun i j hi hj => e _ (by omega)), h6.same (eI _ (by omega) (by omega) (by omega)) (eI _ (by omega) (by omega) (by omega)) (e _ (by decide)) (fun i j hi hj => e _ (by omega)), ?_, hl⟩
  unfold RT7
  rw [eI _ (by omega) (by omega) (by omega), eI _ (by omega) (by omega) (by omega), e 7 (by decide)]
  refine ⟨h7.1, fun i hi => ?_⟩
  have := h7.2 i hi
  rw [e (176 + 3 * i) (by omega), e (176 + 3 * i + 1) (by omega), e (176 + 3 * i + 2) (by omega)]
  exact this
theorem BB.reset {A : SA} : BB (sp_reset A) = 0 := by
  unfold BB; rw [reset_0 (i := 1000) (by decide) (by decide), reset_0 (i := 1001) (by decide) (by decide), nt0]
section CHG
variable {μ μ1 μ2 : Mem} {x : Nat} {A B : SA}
/-- behind a change: both start anew -/
theorem chg_end (h : INV μ x A) (f : Fx (CM x) μ μ1) (hr : RBD (gI μ1) (x + 26) B) (w : WB B) : ∃ μ2, F_X3_restart (x + 26) μ1 = some μ2 ∧ MO μ2 (x + 26) (sp_reset B) (BB (sp_reset B)) ∧ Fx (CM x) μ μ2 ∧ IS μ2 x := by
  obtain ⟨μ2, e, m, g⟩ := x3_restart (h.is.fx f).m1 hr w
  have f2 : Fx (CM x) μ μ2 := f.trans (g.mono (fun a ha => by have := ha.1; have := ha.2; unfold CM; omega))
  exact ⟨μ2, e, by rw [BB.reset]; exact m, f2, h.is.fx f2⟩
theorem LW.chg {β : Type} {L : Option (Int32 × Mem)} {R : Mem → Option (β × Mem)} {ag : β → Mem → Prop} {v : Int64} {b : β} (h : INV μ x A) (e1 : L = some (nI 0, stJ μ1 (x + 132) 0 v)) (f : Fx (CM x) μ μ1) (hm : MO μ1 (x + 26) (sp_reset B) (BB (sp_reset B)))
    (e2 : ∃ μ2, R (stJ μ1 (x + 132) 0 v) = some (b, μ2) ∧ RA μ2 (x + 120) (sp_reset B) ∧ RK (stJ μ1 (x + 132) 0 v) μ2 (x + 120) ∧ gI μ2 (x + 120) 5 = nI 0 ∧ gJ μ2 (x + 132) 0 = v) (ha : ∀ μ', gJ μ' (x + 132) 0 = v → ag b μ') : LW x L R ag := by
  obtain ⟨μ2, q1, q2, q3, q4, q5⟩ := e2
  exact LW.okm h e1 (f.trans (Fx.stJ (by unfold CM; omega))) hm.jj q1 q3 q2.2 q4 (fun _ => ha _ q5)
/-- the reference behind its change -/
theorem chg9 {m : Nat} {y : Nat} (h : RA μ1 m B) : ∃ μ2, F_X9_resetMachine m μ1 = some μ2 ∧ RA μ2 m (sp_reset B) ∧ RK μ1 μ2 m ∧ gI μ2 m = gI μ1 m ∧ (∀ a, ¬ a = m + 1 → gJ μ2 a = gJ μ1 a) ∧ SR μ2 m := by
  obtain ⟨μ2, e, q1, q2⟩ := x9_rst h
  exact ⟨μ2, e, q1, RK.of q2 (fun a ha => Or.inl ha), q2.I (fun (e : m = m + 1) => by omega), fun a ha => q2.J ha, q1.1⟩
end CHG

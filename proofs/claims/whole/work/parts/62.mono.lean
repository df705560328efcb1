/-! LAYER 3: an overflow stays; another width -/
theorem add_mono {A : SA} {k c b : Nat} {a : Int32} (hk : k < 6) (hc : c < 6) (h : isN (A (1012 + c)) 0 b) (hb : b < 2 ^ 30) : nt (A (1012 + c)) ≤ nt (sp_add A k a (1012 + c)) ∧ isN (sp_add A k a (1012 + c)) 0 (b + 1) := by
  obtain ⟨e, _, h2⟩ := h.ex (by omega)
  by_cases hx : c = k
  · subst hx
    rw [sp_add_o hk]
    split
    · rw [e, nI_add, nt_nI (by omega), nt_nI (by omega)]
      exact ⟨by omega, ⟨_, rfl, by omega, by omega⟩⟩
    · exact ⟨Nat.le_refl _, ⟨_, e, by omega, by omega⟩⟩
  · rw [sp_add_at (by omega) (by omega)]
    exact ⟨Nat.le_refl _, ⟨_, e, by omega, by omega⟩⟩
theorem roll_mono {l c : Nat} (hc : c < 6) : ∀ (m k b : Nat) (A : SA), isN (A (1012 + c)) 0 b → b + m < 2 ^ 30 → k + m ≤ nt (A 5) → WB A → nt (A (1012 + c)) ≤ nt (sp_roll l k m A (1012 + c)) := by
  intro m
  induction m with
  | zero => intro k b A _ _ _ _; exact Nat.le_refl _
  | succ m ih =>
    intro k b A hi hb hk w
    have c2 := w.c2.2
    have cc := w.rol (show k < nt (A 5) by omega)
    unfold sp_roll
    by_cases hx : A (136 + 3 * k) = nI l
    · rw [if_pos hx]
      have e : ∀ j, ¬ (1006 ≤ j ∧ j < 1018) → sp_add A (nt (A (136 + 3 * k + 2))) (A (1006 + nt (A (136 + 3 * k + 1)))) j = A j := fun j hj => sp_add_at (by omega) (by omega)
      obtain ⟨g1, g2⟩ := add_mono (k := nt (A (136 + 3 * k + 2))) (a := A (1006 + nt (A (136 + 3 * k + 1)))) (by omega) hc hi (by omega)
      exact Nat.le_trans g1 (ih (k + 1) (b + 1) _ g2 (by omega) (by rw [e 5 (by omega)]; omega) (w.cg (fun j hj => e j (by omega))))
    · rw [if_neg hx]; exact ih (k + 1) b A hi (by omega) (by omega) w
theorem cnt_mono {card c : Nat} (hc : c < 6) : ∀ (m k b : Nat) (A : SA), isN (A (1012 + c)) 0 b → b + m < 2 ^ 30 → k + m ≤ 6 → nt (A (1012 + c)) ≤ nt (sp_cnt card k m A (1012 + c)) := by
  intro m
  induction m with
  | zero => intro k b A _ _ _; exact Nat.le_refl _
  | succ m ih =>
    intro k b A hi hb hk
    unfold sp_cnt
    by_cases hx : sp_adds A k = true
    · rw [if_pos hx]
      obtain ⟨g1, g2⟩ := add_mono (k := k) (a := sp_amt A card k) (by omega) hc hi (by omega)
      exact Nat.le_trans g1 (ih (k + 1) (b + 1) _ g2 (by omega) (by omega))
    · rw [if_neg hx]; exact ih (k + 1) b A hi (by omega) (by omega)
theorem cyc_mono {A : SA} {c l b : Nat} (hc : c < 6) (ex : EX A b) (hb : b < 900000) (h1 : 1 ≤ l) (hl : l ≤ 3) : nt (A (1012 + c)) ≤ nt (sp_cyc A l (1012 + c)) := by
  have w := ex.w
  have c5 := w.c5.2
  have c6 := w.c6.2
  have r := roll_mono (l := l) hc (nt (A 5)) 0 b A (ex.m.2.2.2.2.1 c hc) (by omega) (by omega) w
  have w1 : WB (sp_roll l 0 (nt (A 5)) A) := w.cg (fun j hj => roll_o _ _ _ _ (by omega) (by omega) w)
  have w2 : WB (sp_psum (sp_ptot (sp_roll l 0 (nt (A 5)) A) l) l) := w1.cg (fun j hj => by rw [psum_o (by omega) (by omega), ptot_o (by omega)])
  have e6 : sp_psum (sp_ptot (sp_roll l 0 (nt (A 5)) A) l) l 6 = A 6 := by rw [psum_o (by omega) (by omega), ptot_o (by omega), roll_o _ _ _ _ (by omega) (by omega) w]
  rw [sp_cyc_eq, ua_n (by omega), clear_o _ _ _ _ (by omega) (by rw [e6]; omega) w2, psum_o (by omega) (by omega), ptot_o (by omega)]
  exact r
theorem cycs_mono {c : Nat} (hc : c < 6) : ∀ (m l b : Nat) (A : SA), EX A b → b + 10 * m < 900000 → 1 ≤ l → l + m ≤ 4 → (0 < m → 1 ≤ nt (A 1000)) → nt (A (1012 + c)) ≤ nt (sp_cycs l m A (1012 + c)) := by
  intro m
  induction m with
  | zero => intro l b A _ _ _ _ _; exact Nat.le_refl _
  | succ m ih =>
    intro l b A ex hb h1 hl hd
    have g := cyc_mono hc ex (by omega) h1 (show l ≤ 3 by omega)
    have ex1 := ex.cyc (by omega) h1 (show l ≤ 3 by omega) (hd (by omega))
    have e0 : sp_cyc A l 1000 = A 1000 := cyc_o ex.w h1 (by decide)
    exact Nat.le_trans g (ih (l + 1) (b + 10) _ ex1 (by omega) (by omega) (by omega) (fun _ => by rw [e0]; exact hd (by omega)))
theorem proc_mono {A : SA} {c b : Nat} (hc : c < 6) (ex : EX A b) (hb : b < 600000) (hd : nt (A 1000) < nt (A 8)) : nt (A (1012 + c)) ≤ nt (sp_proc A (1012 + c)) := by
  have w := ex.w
  have c2 := w.c2.2
  have hle := sp_brk_le (A := A) (card := nt (A 1000))
  have g := cycs_mono hc (sp_brk A (nt (A 1000))) 1 b A ex (by omega) (by decide) (by omega) (fun q => sp_brk_0 q)
  have ex1 := ex.cycs (by omega) hle (fun q => sp_brk_0 q)
  have e8 : sp_cycs 1 (sp_brk A (nt (A 1000))) A 8 = A 8 := cycs_o _ _ _ _ w (by decide) (by decide)
  have ex2 := ex1.sel (card := nt (A 1000)) (by rw [e8]; exact hd)
  have g2 := cnt_mono (card := nt (A 1000)) hc (nt (A 2)) 0 _ _ (ex2.m.2.2.2.2.1 c hc) (by omega) (by omega)
  rw [sp_proc_eq, ua_n (by omega), det_o (by omega)]
  refine Nat.le_trans g (Nat.le_trans (Nat.le_of_eq ?_) g2)
  unfold sp_sel; rw [ua_n (by omega)]
theorem tot_mono {A : SA} {c b : Nat} (hc : c < 6) (ex : EX A b) (hb : b < 600000) : nt (A (1012 + c)) ≤ nt (sp_tot A (1012 + c)) := by
  unfold sp_tot
  rw [ua_n (by omega)]
  split
  · exact Nat.le_refl _
  · exact cycs_mono hc 3 1 b A ex (by omega) (by decide) (by decide) (fun _ => by omega)
theorem fin_mono {c : Nat} (hc : c < 6) : ∀ (m b : Nat) (A : SA), EX A b → b + 40 * m < 500000 → nt (A 1000) + m = nt (A 8) → nt (A (1012 + c)) ≤ nt (sp_tot (sp_procs m A) (1012 + c)) := by
  intro m
  induction m with
  | zero => intro b A ex hb _; exact tot_mono hc ex (by omega)
  | succ m ih =>
    intro b A ex hb he
    have w := ex.w
    have c8 := w.c8.2
    have g := proc_mono hc ex (by omega) (by omega)
    have ex1 := ex.proc (by omega) (by omega)
    have e0 : nt (sp_proc A 1000) = nt (A 1000) + 1 := by rw [proc_0, nt_nI (by omega)]
    have e8 : sp_proc A 8 = A 8 := proc_o w (by decide) (by decide)
    exact Nat.le_trans g (ih (b + 40) _ ex1 (by omega) (by rw [e0, e8]; omega))
-- another width of a counter
theorem MO.width {μ : Mem} {r b c wd : Nat} {A : SA} (h : MO μ r A b) (hc : c < nt (A 2)) (h1 : 1 ≤ wd) (h9 : wd ≤ 9) : MO (stI μ (r + 7) (c * 5) (nI wd)) r (ua A (43 + 5 * c) (nI wd)) b := by
  obtain ⟨s, hr, w, m1, m2, m3, m4, m5, m6, m7, m8⟩ := h
  have c2 := w.c2.2
  have c8 := w.c8.2
  have f : Fx (fun a => a = r + 7) μ (stI μ (r + 7) (c * 5) (nI wd)) := Fx.stI rfl
  have e : ∀ i, ¬ (43 ≤ i ∧ i < 76) → ua A (43 + 5 * c) (nI wd) i = A i := fun i hi => ua_n (by omega)
  have e1 : ∀ i, i < 43 → ua A (43 + 5 * c) (nI wd) i = A i := fun i hi => ua_n (by omega)
  have e2 : ∀ i, 1000 ≤ i → ua A (43 + 5 * c) (nI wd) i = A i := fun i hi => ua_n (by omega)
  have pc : ∀ i, i < nt (A 2) → pokc (ua A (43 + 5 * c) (nI wd)) i := fun i hi => by
    by_cases d : i = c
    · subst d
      obtain ⟨a1, a2, a3, a4, a5⟩ := w.oc hi
      unfold pokc
      rw [ua_s, ua_n (k := 43 + 5 * i + 1) (by omega), ua_n (k := 43 + 5 * i + 2) (by omega), ua_n (k := 43 + 5 * i + 3) (by omega), ua_n (k := 43 + 5 * i + 4) (by omega), ua_n (k := 0) (by omega), ua_n (k := 1) (by omega)]
      exact ⟨⟨wd, rfl, h1, h9⟩, a2, a3, a4, a5⟩
    · exact pokc_to (w.oc hi) (ua_n (by omega)) (ua_n (by omega)) (fun j hj => ua_n (by omega))
  have wB := wb_plug w e pc (fun l l1 l2 => pokl_to (w.ol l1 l2) (ua_n (by omega)) (ua_n (by omega)))
  obtain ⟨q1, q2, q3, q4, q5, q6, q7, q8, q9⟩ := hr
  refine ⟨s.fx f, ⟨q1.plug w (fun a a1 a2 a3 => f.I (by omega)) e (fun i j hi hj => ?_) (fun l l1 l2 => ?_), q2.plug (f.I (by omega)) (f.I (by omega)) e, fun k hk => ?_, fun k hk => ?_, fun k hk => ?_, fun l l1 l2 => ?_, ⟨?_, fun l hl => ?_⟩, ⟨?_, fun i k hi k1 k2 => ?_⟩, ?_⟩, wB, ?_⟩
  · rw [q_iI]
    by_cases d : i = c ∧ j = 0
    · obtain ⟨rfl, rfl⟩ := d; show up2 (gI μ) (r + 7) (i * 5) (nI wd) (r + 7) (i * 5) = ua A (43 + 5 * i) (nI wd) (43 + 5 * i); rw [q_us, ua_s]
    · rw [q_un (by omega), ua_n (by omega)]; exact q1.2.2.1.2 i j hi hj
  · rw [f.I (by omega), ua_n (by omega)]; exact q1.2.2.2.2.2.2.2.2 l l1 l2
  · rw [f.I (by omega), e2 _ (by omega)]; exact q3 k hk
  · rw [f.I (by omega), e2 _ (by omega)]; exact q4 k hk
  · rw [f.I (by omega), e2 _ (by omega)]; exact q5 k hk
  · rw [f.I (by omega), e2 _ (by omega)]; exact q6 l l1 l2
  · rw [f.I (by omega), e2 _ (by omega)]; exact q7.1
  · rw [e2 _ (by omega)] at hl
    rw [f.I (by omega), f.I (by omega), e2 _ (by omega)]
    exact ⟨(q7.2 l hl).1, fun k k1 k2 => by rw [e2 _ (by omega)]; exact (q7.2 l hl).2 k k1 k2⟩
  · rw [f.I (by omega), e2 _ (by omega)]; exact q8.1
  · rw [e2 _ (by omega)] at hi
    rw [f.I (by omega), e2 _ (by omega)]; exact q8.2 i k hi k1 k2
  · unfold RF; rw [f.I (by omega), e2 _ (by omega), e2 _ (by omega), e2 _ (by omega)]; exact q9
  · unfold WM
    rw [e2 1000 (by omega), e2 1001 (by omega), e2 1002 (by omega), e1 8 (by omega), e1 1 (by omega), e2 1018 (by omega), e2 1019 (by omega)]
    exact ⟨m1, m2, m3, fun k hk => by rw [e2 _ (by omega)]; exact m4 k hk, fun k hk => by rw [e2 _ (by omega)]; exact m5 k hk, m6, m7, fun i k hi k1 k2 => by rw [e2 _ (by omega)]; exact m8 i k hi k1 k2⟩

/-! LAYER 3: a reading, in pure words: an error (kind, place), or the place behind the latest token, that token's start, the row so far, the numbers of names, the names -/
abbrev GO : Type := Nat × Nat × SA × (Nat → Nat) × (Nat → Nat → List Nat)
abbrev GST : Type := (Nat × Nat) ⊕ GO
def tb (k : Nat) : Nat := [9, 25, 43, 76, 100, 136, 160, 10000].getD k 0
def tS (k : Nat) : Nat := [2, 3, 5, 2, 3, 3, 2, 5].getD k 0
theorem tb_d : ∀ k, k < 8 → (9 ≤ tb k ∧ 1 ≤ tS k ∧ tS k ≤ 5 ∧ 1 ≤ lms.getD k 0 ∧ lms.getD k 0 ≤ 12 ∧ (tb k + tS k * lms.getD k 0 ≤ 73 ∨ 76 ≤ tb k) ∧ (tb k + tS k * lms.getD k 0 ≤ 176 ∨ 1000 ≤ tb k)) ∧ ∀ l, l < 8 → ¬ k = l → tb k + tS k * lms.getD k 0 ≤ tb l ∨ tb l + tS l * lms.getD l 0 ≤ tb k := by decide +kernel
def ek (t : Nat) : Nat := if t = 4 then 1 else 2
def lkf (f : Nat → List Nat) (w : List Nat) : Nat → Option Nat
  | 0 => none
  | r + 1 => if f r = w then some r else lkf f w r
theorem lkf_s {f : Nat → List Nat} {w : List Nat} : ∀ (c r : Nat), lkf f w c = some r → r < c ∧ f r = w := by
  intro c
  induction c with
  | zero => intro r h; cases h
  | succ c ih =>
    intro r h
    unfold lkf at h
    by_cases h1 : f c = w
    · rw [if_pos h1] at h; cases h; exact ⟨by omega, h1⟩
    · rw [if_neg h1] at h; have := ih r h; exact ⟨by omega, this.2⟩
theorem lkf_n {f : Nat → List Nat} {w : List Nat} : ∀ (c : Nat), lkf f w c = none → ∀ r, r < c → ¬ f r = w := by
  intro c
  induction c with
  | zero => intro h r hr; omega
  | succ c ih =>
    intro h r hr
    unfold lkf at h
    by_cases h1 : f c = w
    · rw [if_pos h1] at h; cases h
    · rw [if_neg h1] at h
      by_cases hrc : r = c
      · subst hrc; exact h1
      · exact ih h r (by omega)
theorem lkf_no {f : Nat → List Nat} {w : List Nat} {c : Nat} (h : ∀ r, r < c → ¬ f r = w) : lkf f w c = none := by
  cases e : lkf f w c with
  | none => rfl
  | some r => have := lkf_s c r e; exact absurd this.2 (h r this.1)
def g_fail (k : Nat) (g : GST) : GST := match g with
  | .inl e => .inl e
  | .inr (_, ls, _, _, _) => .inl (k, ls)
def g_tok (b : Nat → Nat) (n kd : Nat) (g : GST) : GST := match g with
  | .inl e => .inl e
  | .inr (p, _, A, nc, wn) => if tk b n p = kd then .inr (te b n p, ts b n p, A, nc, wn) else .inl (ek (tk b n p), ts b n p)
def g_num (b : Nat → Nat) (n lo hi : Nat) (g : GST) : Nat × GST := match g with
  | .inl e => (0, .inl e)
  | .inr (p, _, A, nc, wn) => if tk b n p = 2 then (if lo ≤ tv b n p ∧ tv b n p ≤ hi then (tv b n p, .inr (te b n p, ts b n p, A, nc, wn)) else (tv b n p, .inl (3, ts b n p))) else (0, .inl (ek (tk b n p), ts b n p))
def ncu (nc : Nat → Nat) (t : Nat) : Nat → Nat := fun u => if u = t then nc t + 1 else nc u
def wnu (wn : Nat → Nat → List Nat) (t r : Nat) (w : List Nat) : Nat → Nat → List Nat := fun u q => if u = t ∧ q = r then w else wn u q
def g_new (b : Nat → Nat) (n t : Nat) (g : GST) : GST := match g with
  | .inl e => .inl e
  | .inr (p, _, A, nc, wn) => if tk b n p = 1 then (if kwr (tw b n p) = 0 then (if lkf (wn 0) (tw b n p) (nc 0) = none ∧ lkf (wn 1) (tw b n p) (nc 1) = none ∧ lkf (wn 2) (tw b n p) (nc 2) = none then .inr (te b n p, ts b n p, A, ncu nc t, wnu wn t (nc t) (tw b n p)) else .inl (4, ts b n p)) else .inl (2, ts b n p)) else .inl (ek (tk b n p), ts b n p)
def g_name (b : Nat → Nat) (n t : Nat) (g : GST) : Nat × GST := match g with
  | .inl e => (0, .inl e)
  | .inr (p, _, A, nc, wn) => if tk b n p = 1 then (if kwr (tw b n p) = 0 then (match lkf (wn t) (tw b n p) (nc t) with
      | some r => (r, .inr (te b n p, ts b n p, A, nc, wn))
      | none => (0, .inl (4, ts b n p))) else (0, .inl (2, ts b n p))) else (0, .inl (ek (tk b n p), ts b n p))
/-- a field's name or a counter's: which, its number -/
def g_nameP (b : Nat → Nat) (n : Nat) (g : GST) : Nat × Nat × GST := match g with
  | .inl e => (0, 0, .inl e)
  | .inr (p, _, A, nc, wn) => if tk b n p = 1 then (if kwr (tw b n p) = 0 then (match lkf (wn 0) (tw b n p) (nc 0), lkf (wn 2) (tw b n p) (nc 2) with
      | some r, _ => (0, r, .inr (te b n p, ts b n p, A, nc, wn))
      | none, some r => (2, r, .inr (te b n p, ts b n p, A, nc, wn))
      | none, none => (0, 0, .inl (4, ts b n p))) else (0, 0, .inl (2, ts b n p))) else (0, 0, .inl (ek (tk b n p), ts b n p))
def g_mode (b : Nat → Nat) (n : Nat) (g : GST) : Nat × GST := match g with
  | .inl e => (0, .inl e)
  | .inr (p, _, A, nc, wn) => if tk b n p = 1 then (if kwr (tw b n p) = 14 then (1, .inr (te b n p, ts b n p, A, nc, wn)) else if kwr (tw b n p) = 15 then (2, .inr (te b n p, ts b n p, A, nc, wn)) else if kwr (tw b n p) = 13 then (0, .inr (te b n p, ts b n p, A, nc, wn)) else (0, .inl (2, ts b n p))) else (0, .inl (ek (tk b n p), ts b n p))
def g_opt (b : Nat → Nat) (n : Nat) (g : GST) : Nat × GST := match g with
  | .inl e => (0, .inl e)
  | .inr (p, _, A, nc, wn) => if tk b n p = 4 then (0, .inl (1, ts b n p)) else if trw b n p = 0 ∧ ¬ tk b n p = 3 then (0, .inl (2, ts b n p)) else (trw b n p, .inr (te b n p, ts b n p, A, nc, wn))
def g_start (k lim : Nat) (g : GST) : GST := match g with
  | .inl e => .inl e
  | .inr (p, ls, A, nc, wn) => if lim ≤ nt (A k) then .inl (5, ls) else .inr (p, ls, ua A k (nI (nt (A k) + 1)), nc, wn)
def g_put (i : Nat) (v : Int32) (g : GST) : GST := match g with
  | .inl e => .inl e
  | .inr (p, ls, A, nc, wn) => .inr (p, ls, ua A i v, nc, wn)
-- what the class's things say of it
def TB (I : Nat → SA) (d : Nat) (A : SA) : Prop := ∀ k, k < 8 → RT I (d + 6 + 2 * k) A k (tb k) (tS k)
def ZB (A : SA) : Prop := (∀ k, k < 8 → A k = nI (nt (A k)) ∧ nt (A k) ≤ lms.getD k 0 ∧ ∀ i j, nt (A k) ≤ i → i < lms.getD k 0 → j < tS k → A (tb k + tS k * i + j) = nI 0) ∧ A 8 = nI (nt (A 8)) ∧ nt (A 8) ≤ 40
def CNm (μ : Mem) (d : Nat) (nc : Nat → Nat) (wn : Nat → Nat → List Nat) : Prop :=
  gI μ d 11 = nI (nc 0 + nc 1 + nc 2) ∧ nc 0 ≤ 8 ∧ nc 1 ≤ 6 ∧ nc 2 ≤ 6 ∧ (∀ j, j < nc 0 + nc 1 + nc 2 → ∃ t r, t < 3 ∧ r < nc t ∧ gJ μ (d + 2) j = lN (kk (wn t r)) ∧ gI μ (d + 3) j = nI (2 ^ t) ∧ gI μ (d + 4) j = nI r) ∧ ∀ t r, t < 3 → r < nc t → ∃ j, j < nc 0 + nc 1 + nc 2 ∧ gJ μ (d + 2) j = lN (kk (wn t r))
def WN (nc : Nat → Nat) (wn : Nat → Nat → List Nat) : Prop := (∀ t r, t < 3 → r < nc t → lw (wn t r)) ∧ ∀ t r t' r', t < 3 → t' < 3 → r < nc t → r' < nc t' → wn t r = wn t' r' → t = t' ∧ r = r'
def CT (μ : Mem) (d : Nat) (A : SA) (nc : Nat → Nat) (wn : Nat → Nat → List Nat) : Prop := TB (gI μ) d A ∧ (∀ l, 1 ≤ l → l ≤ 3 → gI μ (d + 22) l = A (73 + l - 1)) ∧ RD (gI μ) (d + 23) A ∧ ZB A ∧ CNm μ d nc wn ∧ WN nc wn ∧ ∀ t, t < 3 → nc t ≤ nt (A t)
def CE (μ : Mem) (d n : Nat) (e : Nat × Nat) : Prop := gI μ d 13 = nI e.1 ∧ 1 ≤ e.1 ∧ e.1 ≤ 5 ∧ gI μ d 14 = nI e.2 ∧ e.2 ≤ n
def COk (μ : Mem) (d n lo p ls : Nat) (A : SA) (nc : Nat → Nat) (wn : Nat → Nat → List Nat) : Prop := gI μ d 13 = nI 0 ∧ gI μ d 3 = nI p ∧ lo ≤ p ∧ p ≤ n ∧ gI μ d 4 = nI ls ∧ ls ≤ n ∧ CT μ d A nc wn
def CG (μ : Mem) (d n lo : Nat) (g : GST) : Prop := match g with
  | .inl e => CE μ d n e
  | .inr (p, ls, A, nc, wn) => COk μ d n lo p ls A nc wn
def CR (μ : Mem) (d : Nat) (b : Nat → Nat) (n lo : Nat) (g : GST) : Prop := CB μ d b n ∧ CG μ d n lo g
/-- what a step of the reader may touch -/
def FR (d : Nat) (μ μ' : Mem) : Prop := Fx (fun a => d ≤ a ∧ a < d + 25 ∧ ¬ a = d + 1) μ μ' ∧ gI μ' d 1 = gI μ d 1
theorem FR.same {d : Nat} {μ : Mem} : FR d μ μ := ⟨Fx.same, rfl⟩
theorem FR.trans {d : Nat} {μ1 μ2 μ3 : Mem} (h : FR d μ1 μ2) (k : FR d μ2 μ3) : FR d μ1 μ3 := ⟨h.1.trans k.1, k.2.trans h.2⟩
theorem FR.dd {d : Nat} {μ μ' : Mem} (f : Fx (fun a => a = d) μ μ') (e : gI μ' d 1 = gI μ d 1) : FR d μ μ' := ⟨f.mono (fun a ha => by omega), e⟩
section GHO
variable {μ μ' μ1 : Mem} {d n lo p ls : Nat} {b : Nat → Nat} {A : SA} {nc : Nat → Nat} {wn : Nat → Nat → List Nat}
theorem CT.dd (h : CT μ d A nc wn) (f : Fx (fun a => a = d) μ μ') (e : gI μ' d 11 = gI μ d 11) : CT μ' d A nc wn := by
  obtain ⟨h1, h2, h3, h4, ⟨a1, a2, a3, a4, a5, a6⟩, h6⟩ := h
  refine ⟨fun k hk => ?_, fun l l1 l2 => ?_, ?_, h4, ⟨e.trans a1, a2, a3, a4, fun j hj => ?_, fun t r ht hr => ?_⟩, h6⟩
  · unfold RT; rw [f.I (by omega), f.I (by omega)]; exact h1 k hk
  · rw [f.I (by omega)]; exact h2 l l1 l2
  · unfold RD; rw [f.I (by omega), f.I (by omega)]; exact h3
  · rw [f.J (by omega), f.I (by omega), f.I (by omega)]; exact a5 j hj
  · rw [f.J (by omega)]; exact a6 t r ht hr
theorem ce_of {k : Nat} (h : CB μ d b n) (hp : p ≤ n) (t : NT μ μ1 d b n p) (h1 : 1 ≤ k) (h5 : k ≤ 5) : CR (stI (stI μ1 d 13 (nI k)) d 14 (nI (ts b n p))) d b n lo (.inl (k, ts b n p)) ∧ FR d μ (stI (stI μ1 d 13 (nI k)) d 14 (nI (ts b n p))) := by
  obtain ⟨t1, t2, t3, t4, t5, t6, t7⟩ := t
  have f2 : Fx (fun a => a = d) μ (stI (stI μ1 d 13 (nI k)) d 14 (nI (ts b n p))) := t6.trans ((Fx.stI (P := fun a => a = d) rfl).trans (Fx.stI rfl))
  refine ⟨⟨h.dd f2 ?_, ?_, h1, h5, ?_, ts_le hp⟩, FR.dd f2 ?_⟩
  · rw [q_iI, q_un (by omega), q_iI, q_un (by omega), t7 2 (by omega)]
  · rw [q_iI, q_un (by omega), q_iI, q_us]
  · rw [q_iI, q_us]
  · rw [q_iI, q_un (by omega), q_iI, q_un (by omega), t7 1 (by omega)]
theorem co_of (h : CB μ d b n) (o : COk μ d n lo p ls A nc wn) (t : NT μ μ1 d b n p) : CR μ1 d b n lo (.inr (te b n p, ts b n p, A, nc, wn)) ∧ FR d μ μ1 := by
  obtain ⟨t1, t2, t3, t4, t5, t6, t7⟩ := t
  obtain ⟨o1, o2, o3, o4, o5, o6, o7⟩ := o
  have := ts_ge (b := b) (n := n) (p := p)
  have := te_ge (b := b) (n := n) (p := p)
  exact ⟨⟨h.dd t6 (t7 2 (by omega)), (t7 13 (by omega)).trans o1, t1, by omega, te_le o4, t2, ts_le o4, o7.dd t6 (t7 11 (by omega))⟩, FR.dd t6 (t7 1 (by omega))⟩
theorem CE.ne {e : Nat × Nat} (h : CE μ d n e) : ¬ gI μ d 13 = nI 0 := by
  rw [h.1, nI_eq (by have := h.2.2.1; omega) (by decide)]; have := h.2.1; omega
theorem x5_fail {v : Int32} (hk : gK μ d = 5) (h0 : gI μ d 13 = nI 0) : F_X5_fail d v μ = some (stI (stI μ d 13 v) d 14 (gI μ d 4)) := by
  simp (disch := first | assumption | omega) only [q_bl, q_baT, q_bi, q_ba, q_pr, q_ob, q_iT, q_iN, q_it, q_if, q_of, nI_add, pk_mul, pk_sub, nI_leI, nI_ltI, nI_eq, nI_clamp, nI_lt0, nI_eqm, m1_eq, true_or, or_true, not_false_eq_true, m1_lt, m1_nlt, m1_le, m1_nle, b01, b011, q_em, q_m1, n_0, n_1, n_2, n_3, n_4, n_5, n_6, n_7, n_8, n_9, n_10, n_11, n_12, n_14, n_15, n_16, n_20, n_24, n_25, n_32, n_36, n_40, n_41, n_42, n_43, n_45, n_46, n_48, n_57, n_59, n_60, n_73, n_76, n_97, n_99, n_100, n_106, n_109, n_120, n_122, n_136, n_160, n_176, n_200, n_255, n_800, n_1000, n_1001, n_1002, n_1003, n_1006, n_1012, n_1018, n_1019, n_1020, n_1100, n_1140, n_4800, n_4920, n_5940, n_6740, n_20220, q_kI, q_lI, q_nI, q_rI, q_iI, q_jI, q_dI, q_kJ, q_lJ, q_nJ, q_rJ, q_iJ, q_jJ, q_dJ, q_kC, q_lC, q_nC, q_rC, q_jC, q_dC, q_kF, q_lF, q_nF, q_rF, q_jF, q_dF, q_us, q_un, q_ua, F_X5_fail, hk, h0]
theorem x5_failE {v : Int32} (hk : gK μ d = 5) (h0 : ¬ gI μ d 13 = nI 0) : F_X5_fail d v μ = some μ := by
  simp (disch := first | assumption | omega) only [q_bl, q_baT, q_bi, q_ba, q_pr, q_ob, q_iT, q_iN, q_it, q_if, q_of, nI_add, pk_mul, pk_sub, nI_leI, nI_ltI, nI_eq, nI_clamp, nI_lt0, nI_eqm, m1_eq, true_or, or_true, not_false_eq_true, m1_lt, m1_nlt, m1_le, m1_nle, b01, b011, q_em, q_m1, n_0, n_1, n_2, n_3, n_4, n_5, n_6, n_7, n_8, n_9, n_10, n_11, n_12, n_14, n_15, n_16, n_20, n_24, n_25, n_32, n_36, n_40, n_41, n_42, n_43, n_45, n_46, n_48, n_57, n_59, n_60, n_73, n_76, n_97, n_99, n_100, n_106, n_109, n_120, n_122, n_136, n_160, n_176, n_200, n_255, n_800, n_1000, n_1001, n_1002, n_1003, n_1006, n_1012, n_1018, n_1019, n_1020, n_1100, n_1140, n_4800, n_4920, n_5940, n_6740, n_20220, F_X5_fail, hk, h0]
theorem ek_r {t : Nat} : 1 ≤ ek t ∧ ek t ≤ 5 := by unfold ek; split <;> omega
/-- an error is told behind a token that stands -/
theorem gfail {k : Nat} {g : GST} (h : CR μ d b n lo g) (h1 : 1 ≤ k) (h5 : k ≤ 5) : ∃ μ', F_X5_fail d (nI k) μ = some μ' ∧ CR μ' d b n lo (g_fail k g) ∧ FR d μ μ' := by
  obtain ⟨hB, hG⟩ := h
  match g, hG with
  | .inl e, hG => exact ⟨μ, x5_failE hB.kd (CE.ne hG), ⟨hB, hG⟩, FR.same⟩
  | .inr (p, ls, A, nc, wn), hG =>
    obtain ⟨o1, o2, o3, o4, o5, o6, o7⟩ := hG
    have f2 : Fx (fun a => a = d) μ (stI (stI μ d 13 (nI k)) d 14 (gI μ d 4)) := (Fx.stI (P := fun a => a = d) rfl).trans (Fx.stI rfl)
    refine ⟨_, x5_fail hB.kd o1, ⟨hB.dd f2 ?_, ?_, h1, h5, ?_, o6⟩, FR.dd f2 ?_⟩
    · rw [q_iI, q_un (by omega), q_iI, q_un (by omega)]
    · rw [q_iI, q_un (by omega), q_iI, q_us]
    · rw [q_iI, q_us]; exact o5
    · rw [q_iI, q_un (by omega), q_iI, q_un (by omega)]
theorem x5_takeE {v : Int32} {e : Nat × Nat} (hB : CB μ d b n) (hG : CE μ d n e) : F_X5_take d v μ = some (nI 0, μ) := by
  have k0 := hB.kd
  have h0 := CE.ne hG
  clear hB hG
  simp (disch := first | assumption | omega) only [q_bl, q_baT, q_bi, q_ba, q_pr, q_ob, q_iT, q_iN, q_it, q_if, q_of, nI_add, pk_mul, pk_sub, nI_leI, nI_ltI, nI_eq, nI_clamp, nI_lt0, nI_eqm, m1_eq, true_or, or_true, not_false_eq_true, m1_lt, m1_nlt, m1_le, m1_nle, b01, b011, q_em, q_m1, n_0, n_1, n_2, n_3, n_4, n_5, n_6, n_7, n_8, n_9, n_10, n_11, n_12, n_14, n_15, n_16, n_20, n_24, n_25, n_32, n_36, n_40, n_41, n_42, n_43, n_45, n_46, n_48, n_57, n_59, n_60, n_73, n_76, n_97, n_99, n_100, n_106, n_109, n_120, n_122, n_136, n_160, n_176, n_200, n_255, n_800, n_1000, n_1001, n_1002, n_1003, n_1006, n_1012, n_1018, n_1019, n_1020, n_1100, n_1140, n_4800, n_4920, n_5940, n_6740, n_20220, F_X5_take, k0, h0]
/-- a token is taken -/
theorem x5_takeO {kd : Nat} (h1 : 1 ≤ kd) (h3 : kd ≤ 3) (hB : CB μ d b n) (o : COk μ d n lo p ls A nc wn) : ∃ μ1, NT μ μ1 d b n p ∧ (tk b n p = kd → F_X5_take d (nI kd) μ = some (nI 1, μ1)) ∧ (¬ tk b n p = kd → F_X5_take d (nI kd) μ = some (nI 0, stI (stI μ1 d 13 (nI (ek (tk b n p)))) d 14 (nI (ts b n p)))) := by
  obtain ⟨μ1, e1, t⟩ := x5_next hB o.2.1 o.2.2.2.1
  obtain ⟨hB1, o1, _⟩ := (co_of hB o t).1
  have k0 := hB.kd
  have k1 := hB1.kd
  have h0 := o.1
  have t5 := t.2.2.1
  have t4 := t.2.1
  have hl := tk_le (b := b) (n := n) (p := p)
  have hts := ts_le (b := b) o.2.2.2.1
  refine ⟨μ1, t, fun hk => ?_, fun hk => ?_⟩
  · have hne : ¬ nI kd = nI 4 := by rw [nI_eq (by omega) (by decide)]; omega
    rw [hk] at t5
    clear hB hB1 o t
    simp (disch := first | assumption | omega) only [q_bl, q_baT, q_bi, q_ba, q_pr, q_ob, q_iT, q_iN, q_it, q_if, q_of, nI_add, pk_mul, pk_sub, nI_leI, nI_ltI, nI_clamp, nI_lt0, nI_eqm, m1_eq, true_or, or_true, not_false_eq_true, m1_lt, m1_nlt, m1_le, m1_nle, b01, b011, q_em, q_m1, n_0, n_1, n_2, n_3, n_4, n_5, n_6, n_7, n_8, n_9, n_10, n_11, n_12, n_14, n_15, n_16, n_20, n_24, n_25, n_32, n_36, n_40, n_41, n_42, n_43, n_45, n_46, n_48, n_57, n_59, n_60, n_73, n_76, n_97, n_99, n_100, n_106, n_109, n_120, n_122, n_136, n_160, n_176, n_200, n_255, n_800, n_1000, n_1001, n_1002, n_1003, n_1006, n_1012, n_1018, n_1019, n_1020, n_1100, n_1140, n_4800, n_4920, n_5940, n_6740, n_20220, F_X5_take, B_X5_take_42, k0, k1, h0, o1, e1, t5, hne]
  · by_cases h4 : tk b n p = 4
    · have f1 := x5_fail (v := nI 1) k1 o1
      have k2 : gK (stI (stI μ1 d 13 (nI 1)) d 14 (gI μ1 d 4)) d = 5 := k1
      have hk1 : ek (tk b n p) = 1 := by unfold ek; rw [if_pos h4]
      rw [hk1, ← t4]
      rw [h4] at t5
      have g13 : ¬ gI (stI (stI μ1 d 13 (nI 1)) d 14 (gI μ1 d 4)) d 13 = nI 0 := by rw [q_iI, q_un (by omega), q_iI, q_us, nI_eq (by decide) (by decide)]; decide
      clear hB hB1 o t
      generalize stI (stI μ1 d 13 (nI 1)) d 14 (gI μ1 d 4) = μ2 at *
      simp (disch := first | assumption | omega) only [q_bl, q_baT, q_bi, q_ba, q_pr, q_ob, q_iT, q_iN, q_it, q_if, q_of, nI_add, pk_mul, pk_sub, nI_leI, nI_ltI, nI_eq, nI_clamp, nI_lt0, nI_eqm, m1_eq, true_or, or_true, not_false_eq_true, m1_lt, m1_nlt, m1_le, m1_nle, b01, b011, q_em, q_m1, n_0, n_1, n_2, n_3, n_4, n_5, n_6, n_7, n_8, n_9, n_10, n_11, n_12, n_14, n_15, n_16, n_20, n_24, n_25, n_32, n_36, n_40, n_41, n_42, n_43, n_45, n_46, n_48, n_57, n_59, n_60, n_73, n_76, n_97, n_99, n_100, n_106, n_109, n_120, n_122, n_136, n_160, n_176, n_200, n_255, n_800, n_1000, n_1001, n_1002, n_1003, n_1006, n_1012, n_1018, n_1019, n_1020, n_1100, n_1140, n_4800, n_4920, n_5940, n_6740, n_20220, F_X5_take, B_X5_take_42, k0, k1, h0, e1, t5, f1, k2, g13]
    · have f1 := x5_fail (v := nI 2) k1 o1
      have k2 : gK (stI (stI μ1 d 13 (nI 2)) d 14 (gI μ1 d 4)) d = 5 := k1
      have hk1 : ek (tk b n p) = 2 := by unfold ek; rw [if_neg h4]
      rw [hk1, ← t4]
      have hne : ¬ nI (tk b n p) = nI 4 := by rw [nI_eq (by omega) (by decide)]; exact h4
      have hne2 : ¬ nI (tk b n p) = nI kd := by rw [nI_eq (by omega) (by omega)]; exact hk
      have g13 : ¬ gI (stI (stI μ1 d 13 (nI 2)) d 14 (gI μ1 d 4)) d 13 = nI 0 := by rw [q_iI, q_un (by omega), q_iI, q_us, nI_eq (by decide) (by decide)]; decide
      clear hB hB1 o t
      generalize stI (stI μ1 d 13 (nI 2)) d 14 (gI μ1 d 4) = μ2 at *
      simp (disch := first | assumption | omega) only [q_bl, q_baT, q_bi, q_ba, q_pr, q_ob, q_iT, q_iN, q_it, q_if, q_of, nI_add, pk_mul, pk_sub, nI_leI, nI_ltI, nI_clamp, nI_lt0, nI_eqm, m1_eq, true_or, or_true, not_false_eq_true, m1_lt, m1_nlt, m1_le, m1_nle, b01, b011, q_em, q_m1, n_0, n_1, n_2, n_3, n_4, n_5, n_6, n_7, n_8, n_9, n_10, n_11, n_12, n_14, n_15, n_16, n_20, n_24, n_25, n_32, n_36, n_40, n_41, n_42, n_43, n_45, n_46, n_48, n_57, n_59, n_60, n_73, n_76, n_97, n_99, n_100, n_106, n_109, n_120, n_122, n_136, n_160, n_176, n_200, n_255, n_800, n_1000, n_1001, n_1002, n_1003, n_1006, n_1012, n_1018, n_1019, n_1020, n_1100, n_1140, n_4800, n_4920, n_5940, n_6740, n_20220, F_X5_take, B_X5_take_42, k0, k1, h0, e1, t5, f1, k2, g13, hne, hne2]
theorem gsemi {g : GST} (h : CR μ d b n lo g) : ∃ μ', F_X5_takeSemicolon d μ = some μ' ∧ CR μ' d b n lo (g_tok b n 3 g) ∧ FR d μ μ' := by
  obtain ⟨hB, hG⟩ := h
  have k0 := hB.kd
  match g, hG with
  | .inl e, hG =>
    have e1 := x5_takeE (v := nI 3) hB hG
    refine ⟨μ, ?_, ⟨hB, hG⟩, FR.same⟩
    clear hB hG
    simp (disch := first | assumption | omega) only [q_bl, q_baT, q_bi, q_ba, q_pr, q_ob, q_iT, q_iN, q_it, q_if, q_of, nI_add, pk_mul, pk_sub, nI_leI, nI_ltI, nI_eq, nI_clamp, nI_lt0, nI_eqm, m1_eq, true_or, or_true, not_false_eq_true, m1_lt, m1_nlt, m1_le, m1_nle, b01, b011, q_em, q_m1, n_0, n_1, n_2, n_3, n_4, n_5, n_6, n_7, n_8, n_9, n_10, n_11, n_12, n_14, n_15, n_16, n_20, n_24, n_25, n_32, n_36, n_40, n_41, n_42, n_43, n_45, n_46, n_48, n_57, n_59, n_60, n_73, n_76, n_97, n_99, n_100, n_106, n_109, n_120, n_122, n_136, n_160, n_176, n_200, n_255, n_800, n_1000, n_1001, n_1002, n_1003, n_1006, n_1012, n_1018, n_1019, n_1020, n_1100, n_1140, n_4800, n_4920, n_5940, n_6740, n_20220, F_X5_takeSemicolon, k0, e1]
  | .inr (p, ls, A, nc, wn), hG =>
    obtain ⟨μ1, t, a1, a2⟩ := x5_takeO (kd := 3) (by decide) (by decide) hB hG
    by_cases hk : tk b n p = 3
    · obtain ⟨c1, c2⟩ := co_of hB hG t
      have e1 := a1 hk
      refine ⟨μ1, ?_, by show CR μ1 d b n lo (if tk b n p = 3 then _ else _); rw [if_pos hk]; exact c1, c2⟩
      clear hB hG t c1 c2 a1 a2
      simp (disch := first | assumption | omega) only [q_bl, q_baT, q_bi, q_ba, q_pr, q_ob, q_iT, q_iN, q_it, q_if, q_of, nI_add, pk_mul, pk_sub, nI_leI, nI_ltI, nI_eq, nI_clamp, nI_lt0, nI_eqm, m1_eq, true_or, or_true, not_false_eq_true, m1_lt, m1_nlt, m1_le, m1_nle, b01, b011, q_em, q_m1, n_0, n_1, n_2, n_3, n_4, n_5, n_6, n_7, n_8, n_9, n_10, n_11, n_12, n_14, n_15, n_16, n_20, n_24, n_25, n_32, n_36, n_40, n_41, n_42, n_43, n_45, n_46, n_48, n_57, n_59, n_60, n_73, n_76, n_97, n_99, n_100, n_106, n_109, n_120, n_122, n_136, n_160, n_176, n_200, n_255, n_800, n_1000, n_1001, n_1002, n_1003, n_1006, n_1012, n_1018, n_1019, n_1020, n_1100, n_1140, n_4800, n_4920, n_5940, n_6740, n_20220, F_X5_takeSemicolon, k0, e1]
    · obtain ⟨c1, c2⟩ := ce_of (lo := lo) hB hG.2.2.2.1 t ek_r.1 ek_r.2
      have e1 := a2 hk
      refine ⟨_, ?_, by show CR _ d b n lo (if tk b n p = 3 then _ else _); rw [if_neg hk]; exact c1, c2⟩
      clear hB hG t c1 c2 a1 a2
      simp (disch := first | assumption | omega) only [q_bl, q_baT, q_bi, q_ba, q_pr, q_ob, q_iT, q_iN, q_it, q_if, q_of, nI_add, pk_mul, pk_sub, nI_leI, nI_ltI, nI_eq, nI_clamp, nI_lt0, nI_eqm, m1_eq, true_or, or_true, not_false_eq_true, m1_lt, m1_nlt, m1_le, m1_nle, b01, b011, q_em, q_m1, n_0, n_1, n_2, n_3, n_4, n_5, n_6, n_7, n_8, n_9, n_10, n_11, n_12, n_14, n_15, n_16, n_20, n_24, n_25, n_32, n_36, n_40, n_41, n_42, n_43, n_45, n_46, n_48, n_57, n_59, n_60, n_73, n_76, n_97, n_99, n_100, n_106, n_109, n_120, n_122, n_136, n_160, n_176, n_200, n_255, n_800, n_1000, n_1001, n_1002, n_1003, n_1006, n_1012, n_1018, n_1019, n_1020, n_1100, n_1140, n_4800, n_4920, n_5940, n_6740, n_20220, F_X5_takeSemicolon, k0, e1]
theorem gnum {g : GST} {l1 l2 : Nat} (hl1 : l1 < 1000) (hl2 : l2 < 1000) (h : CR μ d b n lo g) : ∃ μ', F_X5_takeNumber d (nI l1) (nI l2) μ = some (nI (g_num b n l1 l2 g).1, μ') ∧ CR μ' d b n lo (g_num b n l1 l2 g).2 ∧ FR d μ μ' := by
  obtain ⟨hB, hG⟩ := h
  have k0 := hB.kd
  match g, hG with
  | .inl e, hG =>
    have e1 := x5_takeE (v := nI 2) hB hG
    refine ⟨μ, ?_, ⟨hB, hG⟩, FR.same⟩
    show _ = some (nI 0, μ)
    clear hB hG
    simp (disch := first | assumption | omega) only [q_bl, q_baT, q_bi, q_ba, q_pr, q_ob, q_iT, q_iN, q_it, q_if, q_of, nI_add, pk_mul, pk_sub, nI_leI, nI_ltI, nI_eq, nI_clamp, nI_lt0, nI_eqm, m1_eq, true_or, or_true, not_false_eq_true, m1_lt, m1_nlt, m1_le, m1_nle, b01, b011, q_em, q_m1, n_0, n_1, n_2, n_3, n_4, n_5, n_6, n_7, n_8, n_9, n_10, n_11, n_12, n_14, n_15, n_16, n_20, n_24, n_25, n_32, n_36, n_40, n_41, n_42, n_43, n_45, n_46, n_48, n_57, n_59, n_60, n_73, n_76, n_97, n_99, n_100, n_106, n_109, n_120, n_122, n_136, n_160, n_176, n_200, n_255, n_800, n_1000, n_1001, n_1002, n_1003, n_1006, n_1012, n_1018, n_1019, n_1020, n_1100, n_1140, n_4800, n_4920, n_5940, n_6740, n_20220, F_X5_takeNumber, k0, e1]
  | .inr (p, ls, A, nc, wn), hG =>
    obtain ⟨μ1, t, a1, a2⟩ := x5_takeO (kd := 2) (by decide) (by decide) hB hG
    have eg : g_num b n l1 l2 (.inr (p, ls, A, nc, wn)) = if tk b n p = 2 then (if l1 ≤ tv b n p ∧ tv b n p ≤ l2 then (tv b n p, .inr (te b n p, ts b n p, A, nc, wn)) else (tv b n p, .inl (3, ts b n p))) else (0, .inl (ek (tk b n p), ts b n p)) := rfl
    rw [eg]
    by_cases hk : tk b n p = 2
    · have e1 := a1 hk
      have hv := tv_lt hk
      have g6 := t.2.2.2.1 hk
      obtain ⟨c1, c2⟩ := co_of hB hG t
      have k1 := c1.1.kd
      have o1 := c1.2.1
      have t4 := t.2.1
      rw [if_pos hk]
      by_cases hr : l1 ≤ tv b n p ∧ tv b n p ≤ l2
      · rw [if_pos hr]
        refine ⟨μ1, ?_, c1, c2⟩
        clear hB hG t c1 c2 a1 a2 eg
        simp (disch := first | assumption | omega) only [q_bl, q_baT, q_bi, q_ba, q_pr, q_ob, q_iT, q_iN, q_it, q_if, q_of, nI_add, pk_mul, pk_sub, nI_leI, nI_ltI, nI_eq, nI_clamp, nI_lt0, nI_eqm, m1_eq, true_or, or_true, not_false_eq_true, m1_lt, m1_nlt, m1_le, m1_nle, b01, b011, q_em, q_m1, n_0, n_1, n_2, n_3, n_4, n_5, n_6, n_7, n_8, n_9, n_10, n_11, n_12, n_14, n_15, n_16, n_20, n_24, n_25, n_32, n_36, n_40, n_41, n_42, n_43, n_45, n_46, n_48, n_57, n_59, n_60, n_73, n_76, n_97, n_99, n_100, n_106, n_109, n_120, n_122, n_136, n_160, n_176, n_200, n_255, n_800, n_1000, n_1001, n_1002, n_1003, n_1006, n_1012, n_1018, n_1019, n_1020, n_1100, n_1140, n_4800, n_4920, n_5940, n_6740, n_20220, F_X5_takeNumber, k0, e1, k1, g6, hr]
      · rw [if_neg hr]
        obtain ⟨c3, c4⟩ := ce_of (k := 3) (lo := lo) hB hG.2.2.2.1 t (by decide) (by decide)
        refine ⟨_, ?_, c3, c4⟩
        have f1 := x5_fail (v := nI 3) k1 o1
        rw [t4] at f1
        have k2 : gK (stI (stI μ1 d 13 (nI 3)) d 14 (nI (ts b n p))) d = 5 := k1
        have g6' : gI (stI (stI μ1 d 13 (nI 3)) d 14 (nI (ts b n p))) d 6 = nI (tv b n p) := by rw [q_iI, q_un (by omega), q_iI, q_un (by omega)]; exact g6
        clear hB hG t c1 c2 c3 c4 a1 a2 eg
        generalize stI (stI μ1 d 13 (nI 3)) d 14 (nI (ts b n p)) = μ2 at *
        by_cases h1 : tv b n p < l1
        · simp (disch := first | assumption | omega) only [q_bl, q_baT, q_bi, q_ba, q_pr, q_ob, q_iT, q_iN, q_it, q_if, q_of, nI_add, pk_mul, pk_sub, nI_leI, nI_ltI, nI_eq, nI_clamp, nI_lt0, nI_eqm, m1_eq, true_or, or_true, not_false_eq_true, m1_lt, m1_nlt, m1_le, m1_nle, b01, b011, q_em, q_m1, n_0, n_1, n_2, n_3, n_4, n_5, n_6, n_7, n_8, n_9, n_10, n_11, n_12, n_14, n_15, n_16, n_20, n_24, n_25, n_32, n_36, n_40, n_41, n_42, n_43, n_45, n_46, n_48, n_57, n_59, n_60, n_73, n_76, n_97, n_99, n_100, n_106, n_109, n_120, n_122, n_136, n_160, n_176, n_200, n_255, n_800, n_1000, n_1001, n_1002, n_1003, n_1006, n_1012, n_1018, n_1019, n_1020, n_1100, n_1140, n_4800, n_4920, n_5940, n_6740, n_20220, F_X5_takeNumber, B_X5_takeNumber_26, k0, e1, k1, g6, h1, f1, k2, g6']
        · have h2 : ¬ tv b n p ≤ l2 := by omega
          simp (disch := first | assumption | omega) only [q_bl, q_baT, q_bi, q_ba, q_pr, q_ob, q_iT, q_iN, q_it, q_if, q_of, nI_add, pk_mul, pk_sub, nI_leI, nI_ltI, nI_eq, nI_clamp, nI_lt0, nI_eqm, m1_eq, true_or, or_true, not_false_eq_true, m1_lt, m1_nlt, m1_le, m1_nle, b01, b011, q_em, q_m1, n_0, n_1, n_2, n_3, n_4, n_5, n_6, n_7, n_8, n_9, n_10, n_11, n_12, n_14, n_15, n_16, n_20, n_24, n_25, n_32, n_36, n_40, n_41, n_42, n_43, n_45, n_46, n_48, n_57, n_59, n_60, n_73, n_76, n_97, n_99, n_100, n_106, n_109, n_120, n_122, n_136, n_160, n_176, n_200, n_255, n_800, n_1000, n_1001, n_1002, n_1003, n_1006, n_1012, n_1018, n_1019, n_1020, n_1100, n_1140, n_4800, n_4920, n_5940, n_6740, n_20220, F_X5_takeNumber, B_X5_takeNumber_26, k0, e1, k1, g6, h1, h2, f1, k2, g6']
    · rw [if_neg hk]
      obtain ⟨c1, c2⟩ := ce_of (lo := lo) hB hG.2.2.2.1 t ek_r.1 ek_r.2
      have e1 := a2 hk
      refine ⟨_, ?_, c1, c2⟩
      clear hB hG t c1 c2 a1 a2 eg
      simp (disch := first | assumption | omega) only [q_bl, q_baT, q_bi, q_ba, q_pr, q_ob, q_iT, q_iN, q_it, q_if, q_of, nI_add, pk_mul, pk_sub, nI_leI, nI_ltI, nI_eq, nI_clamp, nI_lt0, nI_eqm, m1_eq, true_or, or_true, not_false_eq_true, m1_lt, m1_nlt, m1_le, m1_nle, b01, b011, q_em, q_m1, n_0, n_1, n_2, n_3, n_4, n_5, n_6, n_7, n_8, n_9, n_10, n_11, n_12, n_14, n_15, n_16, n_20, n_24, n_25, n_32, n_36, n_40, n_41, n_42, n_43, n_45, n_46, n_48, n_57, n_59, n_60, n_73, n_76, n_97, n_99, n_100, n_106, n_109, n_120, n_122, n_136, n_160, n_176, n_200, n_255, n_800, n_1000, n_1001, n_1002, n_1003, n_1006, n_1012, n_1018, n_1019, n_1020, n_1100, n_1140, n_4800, n_4920, n_5940, n_6740, n_20220, F_X5_takeNumber, k0, e1]
end GHO

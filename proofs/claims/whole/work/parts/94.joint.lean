/-! LAYER 3: both readers, statement by statement -/
def g_stmt (b : Nat → Nat) (n w p ls : Nat) (A : SA) (nc : Nat → Nat) (wn : Nat → Nat → List Nat) : GST :=
  if w = 2 then g_field b n (nt (A 0)) (.inr (p, ls, A, nc, wn)) else if w = 3 then g_selector b n (nt (A 1)) (.inr (p, ls, A, nc, wn)) else if w = 4 then g_counter b n (nt (A 2)) (.inr (p, ls, A, nc, wn)) else if w = 5 then g_control b n (.inr (p, ls, A, nc, wn)) else if w = 6 then g_list b n (nt (A 3)) (.inr (p, ls, A, nc, wn)) else if w = 7 then g_total b n (nt (A 4)) (.inr (p, ls, A, nc, wn)) else if w = 8 then g_roll b n (nt (A 5)) (.inr (p, ls, A, nc, wn)) else if w = 9 then g_clear b n (nt (A 6)) (.inr (p, ls, A, nc, wn)) else if w = 10 then g_punch b n (nt (A 7)) (.inr (p, ls, A, nc, wn)) else if w = 11 then g_card b n (.inr (p, ls, A, nc, wn)) else .inl (2, ls)
def D5 (w d : Nat) (μ : Mem) : Option Mem :=
  if w = 2 then F_X5_readField d μ else if w = 3 then F_X5_readSelector d μ else if w = 4 then F_X5_readCounter d μ else if w = 5 then F_X5_readControl d μ else if w = 6 then F_X5_readList d μ else if w = 7 then F_X5_readTotal d μ else if w = 8 then F_X5_readRoll d μ else if w = 9 then F_X5_readClear d μ else if w = 10 then F_X5_readPunch d μ else if w = 11 then F_X5_readCard d μ else F_X5_fail d (nI 2) μ
section JNT
variable {μ μ' μ1 : Mem} {d m n lo p ls : Nat} {b : Nat → Nat} {A : SA} {nc : Nat → Nat} {wn : Nat → Nat → List Nat}
theorem x5_stmt {w : Nat} (h : CR μ d b n lo (.inr (p, ls, A, nc, wn))) (hn : ∀ t, t < 3 → nc t = nt (A t)) : ∃ μ', D5 w d μ = some μ' ∧ CR μ' d b n lo (g_stmt b n w p ls A nc wn) ∧ FR d μ μ' := by
  unfold D5 g_stmt
  by_cases h2 : w = 2
  · rw [if_pos h2, if_pos h2]; exact x5_field h (hn 0 (by decide))
  rw [if_neg h2, if_neg h2]
  by_cases h3 : w = 3
  · rw [if_pos h3, if_pos h3]; exact x5_selector h (hn 1 (by decide))
  rw [if_neg h3, if_neg h3]
  by_cases h4 : w = 4
  · rw [if_pos h4, if_pos h4]; exact x5_counter h (hn 2 (by decide))
  rw [if_neg h4, if_neg h4]
  by_cases h5 : w = 5
  · rw [if_pos h5, if_pos h5]; exact x5_control h
  rw [if_neg h5, if_neg h5]
  by_cases h6 : w = 6
  · rw [if_pos h6, if_pos h6]; exact x5_list h
  rw [if_neg h6, if_neg h6]
  by_cases h7 : w = 7
  · rw [if_pos h7, if_pos h7]; exact x5_total h
  rw [if_neg h7, if_neg h7]
  by_cases h8 : w = 8
  · rw [if_pos h8, if_pos h8]; exact x5_roll h
  rw [if_neg h8, if_neg h8]
  by_cases h9 : w = 9
  · rw [if_pos h9, if_pos h9]; exact x5_clear h
  rw [if_neg h9, if_neg h9]
  by_cases h10 : w = 10
  · rw [if_pos h10, if_pos h10]; exact x5_punch h
  rw [if_neg h10, if_neg h10]
  by_cases h11 : w = 11
  · rw [if_pos h11, if_pos h11]; exact x5_card h
  rw [if_neg h11, if_neg h11]
  exact gfail (k := 2) h (by decide) (by decide)
theorem d5_at : ∀ w : Nat, w < 18 → 2 ≤ w → wd_sw (w - 2) = nI (if w < 12 then w - 1 else 0) := by decide +kernel
theorem b5_pre {w fu t : Nat} (hw : 2 ≤ w ∧ w < 18) (ht : t ≤ 1100) (k0 : gK μ d = 5) (h13 : gI μ d 13 = nI 0) (e1 : F_X5_nextToken d μ = some μ1) (k1 : gK μ1 d = 5) (n0 : ¬ gI μ1 d 5 = nI 0) (e2 : F_X5_reservedWord d μ1 = some w) : L_X5_readText_7 (fu + 1) d (nI t) μ = (D5 w d μ1).bind (fun μ' => L_X5_readText_7 fu d (nI (t + 1)) μ') := by
  have n1100 : ¬ (1100 : Int32) < nI t := by rw [n_1100, nI_ltI (by decide) (by omega)]; omega
  have h13' : gI μ d 13 = 0 := h13
  have n0' : ¬ gI μ1 d 5 = 0 := n0
  have hw0 : ¬ w = 0 := by omega
  have hor : F_Jx29ce0_ordinal_8abf5 w μ1 = some (nI (w - 2)) := by unfold F_Jx29ce0_ordinal_8abf5; rw [q_ba hw]
  have hcl : (nI (w - 2)).toNatClampNeg = w - 2 := nI_clamp (by omega)
  have hb : inb (nI (w - 2)) 16 := q_inb (by omega) (by omega)
  have h01 : nI t + 1 = nI (t + 1) := nI_1 t
  have hsw := d5_at w hw.2 hw.1
  show B_X5_readText_7 (L_X5_readText_7 fu) d (nI t) μ = _
  unfold B_X5_readText_7 B_X5_readText_199
  rw [if_neg n1100, q_ba k0, if_pos h13', e1, q_ob, q_ba k1, if_neg n0', e2, q_ob, if_neg hw0, q_ba hw, hor, q_ob, q_ba hb, hcl, hsw, q_bl]
  simp only [q_bl, h01]
  clear e1 e2 hsw hb hcl hor h13' n0' n1100 h01 k0 k1 h13 n0
  have hwd : w = 2 ∨ w = 3 ∨ w = 4 ∨ w = 5 ∨ w = 6 ∨ w = 7 ∨ w = 8 ∨ w = 9 ∨ w = 10 ∨ w = 11 ∨ 12 ≤ w := by omega
  rcases hwd with rfl | rfl | rfl | rfl | rfl | rfl | rfl | rfl | rfl | rfl | hw12
  · show (if nI (if 2 < 12 then 2 - 1 else 0) = (1 : Int32) then _ else _) = _
    rw [if_pos (show nI (if 2 < 12 then 2 - 1 else 0) = (1 : Int32) from by decide +kernel)]
    rfl
  · show (if nI (if 3 < 12 then 3 - 1 else 0) = (1 : Int32) then _ else _) = _
    rw [if_neg (show ¬ nI (if 3 < 12 then 3 - 1 else 0) = (1 : Int32) from by decide +kernel), if_pos (show nI (if 3 < 12 then 3 - 1 else 0) = (2 : Int32) from by decide +kernel)]
    rfl
  · show (if nI (if 4 < 12 then 4 - 1 else 0) = (1 : Int32) then _ else _) = _
    rw [if_neg (show ¬ nI (if 4 < 12 then 4 - 1 else 0) = (1 : Int32) from by decide +kernel), if_neg (show ¬ nI (if 4 < 12 then 4 - 1 else 0) = (2 : Int32) from by decide +kernel), if_pos (show nI (if 4 < 12 then 4 - 1 else 0) = (3 : Int32) from by decide +kernel)]
    rfl
  · show (if nI (if 5 < 12 then 5 - 1 else 0) = (1 : Int32) then _ else _) = _
    rw [if_neg (show ¬ nI (if 5 < 12 then 5 - 1 else 0) = (1 : Int32) from by decide +kernel), if_neg (show ¬ nI (if 5 < 12 then 5 - 1 else 0) = (2 : Int32) from by decide +kernel), if_neg (show ¬ nI (if 5 < 12 then 5 - 1 else 0) = (3 : Int32) from by decide +kernel), if_pos (show nI (if 5 < 12 then 5 - 1 else 0) = (4 : Int32) from by decide +kernel)]
    rfl
  · show (if nI (if 6 < 12 then 6 - 1 else 0) = (1 : Int32) then _ else _) = _
    rw [if_neg (show ¬ nI (if 6 < 12 then 6 - 1 else 0) = (1 : Int32) from by decide +kernel), if_neg (show ¬ nI (if 6 < 12 then 6 - 1 else 0) = (2 : Int32) from by decide +kernel), if_neg (show ¬ nI (if 6 < 12 then 6 - 1 else 0) = (3 : Int32) from by decide +kernel), if_neg (show ¬ nI (if 6 < 12 then 6 - 1 else 0) = (4 : Int32) from by decide +kernel), if_pos (show nI (if 6 < 12 then 6 - 1 else 0) = (5 : Int32) from by decide +kernel)]
    rfl
  · show (if nI (if 7 < 12 then 7 - 1 else 0) = (1 : Int32) then _ else _) = _
    rw [if_neg (show ¬ nI (if 7 < 12 then 7 - 1 else 0) = (1 : Int32) from by decide +kernel), if_neg (show ¬ nI (if 7 < 12 then 7 - 1 else 0) = (2 : Int32) from by decide +kernel), if_neg (show ¬ nI (if 7 < 12 then 7 - 1 else 0) = (3 : Int32) from by decide +kernel), if_neg (show ¬ nI (if 7 < 12 then 7 - 1 else 0) = (4 : Int32) from by decide +kernel), if_neg (show ¬ nI (if 7 < 12 then 7 - 1 else 0) = (5 : Int32) from by decide +kernel), if_pos (show nI (if 7 < 12 then 7 - 1 else 0) = (6 : Int32) from by decide +kernel)]
    rfl
  · show (if nI (if 8 < 12 then 8 - 1 else 0) = (1 : Int32) then _ else _) = _
    rw [if_neg (show ¬ nI (if 8 < 12 then 8 - 1 else 0) = (1 : Int32) from by decide +kernel), if_neg (show ¬ nI (if 8 < 12 then 8 - 1 else 0) = (2 : Int32) from by decide +kernel), if_neg (show ¬ nI (if 8 < 12 then 8 - 1 else 0) = (3 : Int32) from by decide +kernel), if_neg (show ¬ nI (if 8 < 12 then 8 - 1 else 0) = (4 : Int32) from by decide +kernel), if_neg (show ¬ nI (if 8 < 12 then 8 - 1 else 0) = (5 : Int32) from by decide +kernel), if_neg (show ¬ nI (if 8 < 12 then 8 - 1 else 0) = (6 : Int32) from by decide +kernel), if_pos (show nI (if 8 < 12 then 8 - 1 else 0) = (7 : Int32) from by decide +kernel)]
    rfl
  · show (if nI (if 9 < 12 then 9 - 1 else 0) = (1 : Int32) then _ else _) = _
    rw [if_neg (show ¬ nI (if 9 < 12 then 9 - 1 else 0) = (1 : Int32) from by decide +kernel), if_neg (show ¬ nI (if 9 < 12 then 9 - 1 else 0) = (2 : Int32) from by decide +kernel), if_neg (show ¬ nI (if 9 < 12 then 9 - 1 else 0) = (3 : Int32) from by decide +kernel), if_neg (show ¬ nI (if 9 < 12 then 9 - 1 else 0) = (4 : Int32) from by decide +kernel), if_neg (show ¬ nI (if 9 < 12 then 9 - 1 else 0) = (5 : Int32) from by decide +kernel), if_neg (show ¬ nI (if 9 < 12 then 9 - 1 else 0) = (6 : Int32) from by decide +kernel), if_neg (show ¬ nI (if 9 < 12 then 9 - 1 else 0) = (7 : Int32) from by decide +kernel), if_pos (show nI (if 9 < 12 then 9 - 1 else 0) = (8 : Int32) from by decide +kernel)]
    rfl
  · show (if nI (if 10 < 12 then 10 - 1 else 0) = (1 : Int32) then _ else _) = _
    rw [if_neg (show ¬ nI (if 10 < 12 then 10 - 1 else 0) = (1 : Int32) from by decide +kernel), if_neg (show ¬ nI (if 10 < 12 then 10 - 1 else 0) = (2 : Int32) from by decide +kernel), if_neg (show ¬ nI (if 10 < 12 then 10 - 1 else 0) = (3 : Int32) from by decide +kernel), if_neg (show ¬ nI (if 10 < 12 then 10 - 1 else 0) = (4 : Int32) from by decide +kernel), if_neg (show ¬ nI (if 10 < 12 then 10 - 1 else 0) = (5 : Int32) from by decide +kernel), if_neg (show ¬ nI (if 10 < 12 then 10 - 1 else 0) = (6 : Int32) from by decide +kernel), if_neg (show ¬ nI (if 10 < 12 then 10 - 1 else 0) = (7 : Int32) from by decide +kernel), if_neg (show ¬ nI (if 10 < 12 then 10 - 1 else 0) = (8 : Int32) from by decide +kernel), if_pos (show nI (if 10 < 12 then 10 - 1 else 0) = (9 : Int32) from by decide +kernel)]
    rfl
  · show (if nI (if 11 < 12 then 11 - 1 else 0) = (1 : Int32) then _ else _) = _
    rw [if_neg (show ¬ nI (if 11 < 12 then 11 - 1 else 0) = (1 : Int32) from by decide +kernel), if_neg (show ¬ nI (if 11 < 12 then 11 - 1 else 0) = (2 : Int32) from by decide +kernel), if_neg (show ¬ nI (if 11 < 12 then 11 - 1 else 0) = (3 : Int32) from by decide +kernel), if_neg (show ¬ nI (if 11 < 12 then 11 - 1 else 0) = (4 : Int32) from by decide +kernel), if_neg (show ¬ nI (if 11 < 12 then 11 - 1 else 0) = (5 : Int32) from by decide +kernel), if_neg (show ¬ nI (if 11 < 12 then 11 - 1 else 0) = (6 : Int32) from by decide +kernel), if_neg (show ¬ nI (if 11 < 12 then 11 - 1 else 0) = (7 : Int32) from by decide +kernel), if_neg (show ¬ nI (if 11 < 12 then 11 - 1 else 0) = (8 : Int32) from by decide +kernel), if_neg (show ¬ nI (if 11 < 12 then 11 - 1 else 0) = (9 : Int32) from by decide +kernel), if_pos (show nI (if 11 < 12 then 11 - 1 else 0) = (10 : Int32) from by decide +kernel)]
    rfl
  · rw [if_neg (show ¬ w < 12 from by omega)]
    rw [if_neg (show ¬ nI 0 = (1 : Int32) from by decide +kernel), if_neg (show ¬ nI 0 = (2 : Int32) from by decide +kernel), if_neg (show ¬ nI 0 = (3 : Int32) from by decide +kernel), if_neg (show ¬ nI 0 = (4 : Int32) from by decide +kernel), if_neg (show ¬ nI 0 = (5 : Int32) from by decide +kernel), if_neg (show ¬ nI 0 = (6 : Int32) from by decide +kernel), if_neg (show ¬ nI 0 = (7 : Int32) from by decide +kernel), if_neg (show ¬ nI 0 = (8 : Int32) from by decide +kernel), if_neg (show ¬ nI 0 = (9 : Int32) from by decide +kernel), if_neg (show ¬ nI 0 = (10 : Int32) from by decide +kernel)]
    unfold D5
    rw [if_neg (show ¬ w = 2 from by omega), if_neg (show ¬ w = 3 from by omega), if_neg (show ¬ w = 4 from by omega), if_neg (show ¬ w = 5 from by omega), if_neg (show ¬ w = 6 from by omega), if_neg (show ¬ w = 7 from by omega), if_neg (show ¬ w = 8 from by omega), if_neg (show ¬ w = 9 from by omega), if_neg (show ¬ w = 10 from by omega), if_neg (show ¬ w = 11 from by omega)]
    rfl
theorem b5_step {w fu t : Nat} (hw : 2 ≤ w ∧ w < 18) (ht : t ≤ 1100) (k0 : gK μ d = 5) (h13 : gI μ d 13 = nI 0) (e1 : F_X5_nextToken d μ = some μ1) (k1 : gK μ1 d = 5) (n0 : ¬ gI μ1 d 5 = nI 0) (e2 : F_X5_reservedWord d μ1 = some w) (e3 : D5 w d μ1 = some μ') : L_X5_readText_7 (fu + 1) d (nI t) μ = L_X5_readText_7 fu d (nI (t + 1)) μ' := by
  rw [b5_pre hw ht k0 h13 e1 k1 n0 e2, e3]; rfl
theorem b5_end {fu t : Nat} (ht : t ≤ 1100) (k0 : gK μ d = 5) (h13 : gI μ d 13 = nI 0) (e1 : F_X5_nextToken d μ = some μ1) (k1 : gK μ1 d = 5) (n0 : gI μ1 d 5 = nI 0) : L_X5_readText_7 (fu + 1) d (nI t) μ = some (nI 1, μ1) := by
  have n1100 : ¬ (1100 : Int32) < nI t := by rw [n_1100, nI_ltI (by decide) (by omega)]; omega
  have h13' : gI μ d 13 = 0 := h13
  have n0' : gI μ1 d 5 = 0 := n0
  show B_X5_readText_7 (L_X5_readText_7 fu) d (nI t) μ = _
  unfold B_X5_readText_7
  rw [if_neg n1100, q_ba k0, if_pos h13', e1, q_ob, q_ba k1, if_pos n0']
  rfl
theorem b5_err {fu t q k : Nat} (ht : t ≤ 1100) (k0 : gK μ d = 5) (h13 : gI μ d 13 = nI 0) (e1 : F_X5_nextToken d μ = some μ1) (k1 : gK μ1 d = 5) (hq : q ≤ 4) (t5 : gI μ1 d 5 = nI q) (n0 : ¬ q = 0) (e2 : F_X5_reservedWord d μ1 = some 0) (hk : k = ek q) (e3 : F_X5_fail d (nI k) μ1 = some μ') : L_X5_readText_7 (fu + 1) d (nI t) μ = some (nI 0, μ') := by
  have n1100 : ¬ (1100 : Int32) < nI t := by rw [n_1100, nI_ltI (by decide) (by omega)]; omega
  have h13' : gI μ d 13 = 0 := h13
  have n0' : ¬ gI μ1 d 5 = 0 := by rw [t5, show (0 : Int32) = nI 0 from rfl, nI_eq (by omega) (by decide)]; exact n0
  show B_X5_readText_7 (L_X5_readText_7 fu) d (nI t) μ = _
  unfold B_X5_readText_7 B_X5_readText_57
  rw [if_neg n1100, q_ba k0, if_pos h13', e1, q_ob, q_ba k1, if_neg n0', e2, q_ob, if_pos rfl]
  by_cases h4 : q = 4
  · have h1 : ek q = 1 := by unfold ek; rw [if_pos h4]
    have t5' : gI μ1 d 5 = 4 := by rw [t5, h4]; rfl
    have e3' : F_X5_fail d (1 : Int32) μ1 = some μ' := by rw [hk, h1] at e3; exact e3
    rw [if_pos t5', q_ba k1, e3']
    rfl
  · have h1 : ek q = 2 := by unfold ek; rw [if_neg h4]
    have t5' : ¬ gI μ1 d 5 = 4 := by rw [t5, show (4 : Int32) = nI 4 from rfl, nI_eq (by omega) (by decide)]; exact h4
    have e3' : F_X5_fail d (2 : Int32) μ1 = some μ' := by rw [hk, h1] at e3; exact e3
    rw [if_neg t5', q_ba k1, e3']
    rfl
theorem b5_stop {fu t : Nat} (ht : t ≤ 1101) (k0 : gK μ d = 5) (h13 : ¬ gI μ d 13 = nI 0) : L_X5_readText_7 (fu + 1) d (nI t) μ = some (nI 0, μ) := by
  have h13' : ¬ gI μ d 13 = 0 := h13
  show B_X5_readText_7 (L_X5_readText_7 fu) d (nI t) μ = _
  unfold B_X5_readText_7
  by_cases h : (1100 : Int32) < nI t
  · rw [if_pos h]; rfl
  · rw [if_neg h, q_ba k0, if_neg h13']; rfl
-- the reference's turns
theorem c9_end {fu : Nat} {ν : Mem} (m0 : gK ν m = 8) (c0 : gI ν m 13 = nI 0) : L_X9_load_71 (fu + 1) m (nI 1) ν = B_X9_load_105 m (nI 1) ν := by
  have c0' : gI ν m 13 = 0 := c0
  show B_X9_load_71 (L_X9_load_71 fu) m (nI 1) ν = _
  unfold B_X9_load_71
  rw [if_neg (show ¬ nI 1 = (0 : Int32) from by decide +kernel), q_ba m0, if_pos c0']
theorem c9_bad {fu : Nat} {ν : Mem} : L_X9_load_71 (fu + 1) m (nI 0) ν = B_X9_load_105 m (nI 0) ν := by
  show B_X9_load_71 (L_X9_load_71 fu) m (nI 0) ν = _
  unfold B_X9_load_71
  rw [if_pos (show nI 0 = (0 : Int32) from rfl)]
theorem c9_st {fu : Nat} {ν ν2 : Mem} (m0 : gK ν m = 8) (c0 : ¬ gI ν m 13 = nI 0) (e2 : F_X9_statement m ν = some (nI 0, ν2)) : L_X9_load_71 (fu + 1) m (nI 1) ν = L_X9_load_71 fu m (nI 0) ν2 := by
  have c0' : ¬ gI ν m 13 = 0 := c0
  show B_X9_load_71 (L_X9_load_71 fu) m (nI 1) ν = _
  unfold B_X9_load_71
  rw [if_neg (show ¬ nI 1 = (0 : Int32) from by decide +kernel), q_ba m0, if_neg c0', e2, q_ob, q_pr, if_pos (show nI 0 = (0 : Int32) from rfl)]
  rfl
theorem c9_cl {fu : Nat} {x : Int32} {ν ν2 ν3 : Mem} (m0 : gK ν m = 8) (c0 : ¬ gI ν m 13 = nI 0) (e2 : F_X9_statement m ν = some (nI 1, ν2)) (m2 : gK ν2 m = 8) (e3 : F_X9_closed m ν2 = some (x, ν3)) (hx : x = nI 0 ∨ x = nI 1) : L_X9_load_71 (fu + 1) m (nI 1) ν = L_X9_load_71 fu m x ν3 := by
  have c0' : ¬ gI ν m 13 = 0 := c0
  show B_X9_load_71 (L_X9_load_71 fu) m (nI 1) ν = _
  unfold B_X9_load_71
  rw [if_neg (show ¬ nI 1 = (0 : Int32) from by decide +kernel), q_ba m0, if_neg c0', e2, q_ob, q_pr, if_neg (show ¬ nI 1 = (0 : Int32) from by decide +kernel), q_ba m2, e3, q_ob, q_pr]
  rcases hx with rfl | rfl
  · rw [if_pos (show nI 0 = (0 : Int32) from rfl)]; rfl
  · rw [if_neg (show ¬ nI 1 = (0 : Int32) from by decide +kernel)]; rfl
def D9 (w m : Nat) (μ : Mem) : Option (Int32 × Mem) :=
  if w = 2 then F_X9_field m μ else if w = 3 then F_X9_selector m μ else if w = 4 then F_X9_counter m μ else if w = 5 then F_X9_control m μ else if w = 6 then F_X9_list m μ else if w = 7 then F_X9_total m μ else if w = 8 then F_X9_roll m μ else if w = 9 then F_X9_clear m μ else if w = 10 then F_X9_punch m μ else if w = 11 then F_X9_card m μ else F_X9_fail m (nI 2) μ
theorem c9_stmt {w : Nat} (k0 : gK μ m = 8) (g13 : gI μ m 13 = nI 2) (g14 : gI μ m 14 = kwI w) (hw : w = 0 ∨ (2 ≤ w ∧ w < 18)) : F_X9_statement m μ = (D9 w m μ).bind (pr fun x μ' => ba (x = 0 ∨ x = 1) <| some (x, μ')) := by
  have g13' : gI μ m 13 = (2 : Int32) := g13
  unfold F_X9_statement
  rw [q_ba k0, if_pos g13', q_bl, g14]
  clear g14 g13 g13' k0
  have hwd : w = 2 ∨ w = 3 ∨ w = 4 ∨ w = 5 ∨ w = 6 ∨ w = 7 ∨ w = 8 ∨ w = 9 ∨ w = 10 ∨ w = 11 ∨ (w = 0 ∨ 12 ≤ w) := by omega
  rcases hwd with rfl | rfl | rfl | rfl | rfl | rfl | rfl | rfl | rfl | rfl | hw12
  · show (if kwI 2 = (0 : Int32) then _ else _) = _
    rw [if_pos (show kwI 2 = (0 : Int32) from by decide +kernel)]
    rfl
  · show (if kwI 3 = (0 : Int32) then _ else _) = _
    rw [if_neg (show ¬ kwI 3 = (0 : Int32) from by decide +kernel), if_pos (show kwI 3 = (1 : Int32) from by decide +kernel)]
    rfl
  · show (if kwI 4 = (0 : Int32) then _ else _) = _
    rw [if_neg (show ¬ kwI 4 = (0 : Int32) from by decide +kernel), if_neg (show ¬ kwI 4 = (1 : Int32) from by decide +kernel), if_pos (show kwI 4 = (2 : Int32) from by decide +kernel)]
    rfl
  · show (if kwI 5 = (0 : Int32) then _ else _) = _
    rw [if_neg (show ¬ kwI 5 = (0 : Int32) from by decide +kernel), if_neg (show ¬ kwI 5 = (1 : Int32) from by decide +kernel), if_neg (show ¬ kwI 5 = (2 : Int32) from by decide +kernel), if_pos (show kwI 5 = (3 : Int32) from by decide +kernel)]
    rfl
  · show (if kwI 6 = (0 : Int32) then _ else _) = _
    rw [if_neg (show ¬ kwI 6 = (0 : Int32) from by decide +kernel), if_neg (show ¬ kwI 6 = (1 : Int32) from by decide +kernel), if_neg (show ¬ kwI 6 = (2 : Int32) from by decide +kernel), if_neg (show ¬ kwI 6 = (3 : Int32) from by decide +kernel), if_pos (show kwI 6 = (4 : Int32) from by decide +kernel)]
    rfl
  · show (if kwI 7 = (0 : Int32) then _ else _) = _
    rw [if_neg (show ¬ kwI 7 = (0 : Int32) from by decide +kernel), if_neg (show ¬ kwI 7 = (1 : Int32) from by decide +kernel), if_neg (show ¬ kwI 7 = (2 : Int32) from by decide +kernel), if_neg (show ¬ kwI 7 = (3 : Int32) from by decide +kernel), if_neg (show ¬ kwI 7 = (4 : Int32) from by decide +kernel), if_pos (show kwI 7 = (5 : Int32) from by decide +kernel)]
    rfl
  · show (if kwI 8 = (0 : Int32) then _ else _) = _
    rw [if_neg (show ¬ kwI 8 = (0 : Int32) from by decide +kernel), if_neg (show ¬ kwI 8 = (1 : Int32) from by decide +kernel), if_neg (show ¬ kwI 8 = (2 : Int32) from by decide +kernel), if_neg (show ¬ kwI 8 = (3 : Int32) from by decide +kernel), if_neg (show ¬ kwI 8 = (4 : Int32) from by decide +kernel), if_neg (show ¬ kwI 8 = (5 : Int32) from by decide +kernel), if_pos (show kwI 8 = (6 : Int32) from by decide +kernel)]
    rfl
  · show (if kwI 9 = (0 : Int32) then _ else _) = _
    rw [if_neg (show ¬ kwI 9 = (0 : Int32) from by decide +kernel), if_neg (show ¬ kwI 9 = (1 : Int32) from by decide +kernel), if_neg (show ¬ kwI 9 = (2 : Int32) from by decide +kernel), if_neg (show ¬ kwI 9 = (3 : Int32) from by decide +kernel), if_neg (show ¬ kwI 9 = (4 : Int32) from by decide +kernel), if_neg (show ¬ kwI 9 = (5 : Int32) from by decide +kernel), if_neg (show ¬ kwI 9 = (6 : Int32) from by decide +kernel), if_pos (show kwI 9 = (7 : Int32) from by decide +kernel)]
    rfl
  · show (if kwI 10 = (0 : Int32) then _ else _) = _
    rw [if_neg (show ¬ kwI 10 = (0 : Int32) from by decide +kernel), if_neg (show ¬ kwI 10 = (1 : Int32) from by decide +kernel), if_neg (show ¬ kwI 10 = (2 : Int32) from by decide +kernel), if_neg (show ¬ kwI 10 = (3 : Int32) from by decide +kernel), if_neg (show ¬ kwI 10 = (4 : Int32) from by decide +kernel), if_neg (show ¬ kwI 10 = (5 : Int32) from by decide +kernel), if_neg (show ¬ kwI 10 = (6 : Int32) from by decide +kernel), if_neg (show ¬ kwI 10 = (7 : Int32) from by decide +kernel), if_pos (show kwI 10 = (8 : Int32) from by decide +kernel)]
    rfl
  · show (if kwI 11 = (0 : Int32) then _ else _) = _
    rw [if_neg (show ¬ kwI 11 = (0 : Int32) from by decide +kernel), if_neg (show ¬ kwI 11 = (1 : Int32) from by decide +kernel), if_neg (show ¬ kwI 11 = (2 : Int32) from by decide +kernel), if_neg (show ¬ kwI 11 = (3 : Int32) from by decide +kernel), if_neg (show ¬ kwI 11 = (4 : Int32) from by decide +kernel), if_neg (show ¬ kwI 11 = (5 : Int32) from by decide +kernel), if_neg (show ¬ kwI 11 = (6 : Int32) from by decide +kernel), if_neg (show ¬ kwI 11 = (7 : Int32) from by decide +kernel), if_neg (show ¬ kwI 11 = (8 : Int32) from by decide +kernel), if_pos (show kwI 11 = (9 : Int32) from by decide +kernel)]
    rfl
  · have hne : ∀ q, q < 10 → ¬ kwI w = nI q := fun q hq => by
      unfold kwI
      by_cases h0 : w = 0
      · rw [if_pos h0, m1_eq (by omega)]; exact id
      · rw [if_neg h0, nI_eq (by omega) (by omega)]; omega
    rw [if_neg (show ¬ kwI w = (0 : Int32) from hne 0 (by decide)), if_neg (show ¬ kwI w = (1 : Int32) from hne 1 (by decide)), if_neg (show ¬ kwI w = (2 : Int32) from hne 2 (by decide)), if_neg (show ¬ kwI w = (3 : Int32) from hne 3 (by decide)), if_neg (show ¬ kwI w = (4 : Int32) from hne 4 (by decide)), if_neg (show ¬ kwI w = (5 : Int32) from hne 5 (by decide)), if_neg (show ¬ kwI w = (6 : Int32) from hne 6 (by decide)), if_neg (show ¬ kwI w = (7 : Int32) from hne 7 (by decide)), if_neg (show ¬ kwI w = (8 : Int32) from hne 8 (by decide)), if_neg (show ¬ kwI w = (9 : Int32) from hne 9 (by decide))]
    unfold D9
    rw [if_neg (show ¬ w = 2 from by omega), if_neg (show ¬ w = 3 from by omega), if_neg (show ¬ w = 4 from by omega), if_neg (show ¬ w = 5 from by omega), if_neg (show ¬ w = 6 from by omega), if_neg (show ¬ w = 7 from by omega), if_neg (show ¬ w = 8 from by omega), if_neg (show ¬ w = 9 from by omega), if_neg (show ¬ w = 10 from by omega), if_neg (show ¬ w = 11 from by omega)]
    rfl
theorem RM.stmt0 (h : RM μ m b n p A nc wn) (hw0 : trw b n p = 0) : ∃ μ', F_X9_statement m μ = some (nI 0, μ') ∧ RFr m μ μ' ∧ RE μ' m (ek (tk b n p), ts b n p) := by
  have hl := tk_le (b := b) (n := n) (p := p)
  obtain ⟨-, t2, -, -, -, t6⟩ := trc_1 hl
  have k0 := h.k0
  have g13 := h.g13
  have g14 : gI μ m 14 = kwI (trw b n p) := h.2.1.2.2.2.1
  rw [hw0] at g14
  obtain ⟨μ2, e2, f2, c2⟩ := h.fail (k := 2) (by decide) (by decide)
  refine ⟨μ2, ?_, f2, c2⟩
  by_cases hk : tk b n p = 1
  · rw [t2.mpr hk] at g13
    rw [c9_stmt k0 g13 g14 (Or.inl rfl)]
    show (F_X9_fail m (nI 2) μ).bind _ = _
    rw [e2, q_ob, q_pr, q_ba (show nI 0 = (0 : Int32) ∨ nI 0 = 1 from Or.inl rfl)]
  · have hne : ¬ gI μ m 13 = (2 : Int32) := by rw [g13, show (2 : Int32) = nI 2 from rfl, nI_eq (by omega) (by decide)]; exact fun q => hk (t2.mp q)
    unfold F_X9_statement
    rw [q_ba k0, if_neg hne]
    have e2' : F_X9_fail m (2 : Int32) μ = some (nI 0, μ2) := e2
    rw [e2', q_ob, q_pr, q_ba (show nI 0 = (0 : Int32) ∨ nI 0 = 1 from Or.inl rfl)]
theorem RM.stmt (h : RM μ m b n p A nc wn) (v : VA A nc) (hz : ZB A) (hw0 : ¬ trw b n p = 0) : RQ μ m b n (F_X9_statement m μ) (g_stmt b n (trw b n p) (te b n p) (ts b n p) A nc wn) := by
  have hl := tk_le (b := b) (n := n) (p := p)
  obtain ⟨-, t2, -, -, -, t6⟩ := trc_1 hl
  have k0 := h.k0
  have g13 := h.g13
  have g14 : gI μ m 14 = kwI (trw b n p) := h.2.1.2.2.2.1
  have tr := trw_r (b := b) (n := n) (p := p)
  have hk : tk b n p = 1 := by
    by_cases hk : tk b n p = 1
    · exact hk
    · unfold trw at hw0; rw [if_neg hk] at hw0; exact absurd rfl hw0
  rw [t2.mpr hk] at g13
  have eS := c9_stmt k0 g13 g14 tr
  have hD : RQ μ m b n (D9 (trw b n p) m μ) (g_stmt b n (trw b n p) (te b n p) (ts b n p) A nc wn) := by
    clear eS g14 g13
    generalize trw b n p = w at *
    unfold D9 g_stmt
    by_cases h2 : w = 2
    · rw [if_pos h2, if_pos h2]; exact r9_field h v hk
    rw [if_neg h2, if_neg h2]
    by_cases h3 : w = 3
    · rw [if_pos h3, if_pos h3]; exact r9_selector h v hk hz
    rw [if_neg h3, if_neg h3]
    by_cases h4 : w = 4
    · rw [if_pos h4, if_pos h4]; exact r9_counter h v hk hz
    rw [if_neg h4, if_neg h4]
    by_cases h5 : w = 5
    · rw [if_pos h5, if_pos h5]; exact r9_control h v
    rw [if_neg h5, if_neg h5]
    by_cases h6 : w = 6
    · rw [if_pos h6, if_pos h6]; exact r9_list h v hk
    rw [if_neg h6, if_neg h6]
    by_cases h7 : w = 7
    · rw [if_pos h7, if_pos h7]; exact r9_total h v hk
    rw [if_neg h7, if_neg h7]
    by_cases h8 : w = 8
    · rw [if_pos h8, if_pos h8]; exact r9_roll h v hk
    rw [if_neg h8, if_neg h8]
    by_cases h9 : w = 9
    · rw [if_pos h9, if_pos h9]; exact r9_clear h v hk
    rw [if_neg h9, if_neg h9]
    by_cases h10 : w = 10
    · rw [if_pos h10, if_pos h10]; exact r9_punch h v hk
    rw [if_neg h10, if_neg h10]
    by_cases h11 : w = 11
    · rw [if_pos h11, if_pos h11]; exact r9_card h v hk
    rw [if_neg h11, if_neg h11]
    obtain ⟨μ2, e2, f2, c2⟩ := h.fail (k := 2) (by decide) (by decide)
    rw [if_neg (by omega)] at c2
    exact ⟨nI 0, μ2, e2, f2, Or.inr ⟨rfl, _, c2, rfl⟩⟩
  obtain ⟨x, μ2, e2, f2, r2⟩ := hD
  refine ⟨x, μ2, ?_, f2, r2⟩
  rw [eS, e2, q_ob, q_pr, q_ba]
  rcases r2 with ⟨r, _⟩ | ⟨r, _⟩
  · exact Or.inr r
  · exact Or.inl r
theorem CR.low {lo' : Nat} {g : GST} (h : CR μ d b n lo g) (hl : lo' ≤ lo) : CR μ d b n lo' g := by
  refine ⟨h.1, ?_⟩
  match g, h with
  | .inl e, h => exact h.2
  | .inr (p, ls, A, nc, wn), h =>
    obtain ⟨o1, o2, o3, o4, o5⟩ := h.2
    exact ⟨o1, o2, by omega, o4, o5⟩
/-- the class's reader before a statement -/
def CW (μ : Mem) (d : Nat) (b : Nat → Nat) (n p : Nat) (A : SA) (nc : Nat → Nat) (wn : Nat → Nat → List Nat) : Prop := CB μ d b n ∧ gI μ d 13 = nI 0 ∧ gI μ d 3 = nI p ∧ p ≤ n ∧ CT μ d A nc wn
theorem cw_of (h : CW μ d b n p A nc wn) (t : NT μ μ1 d b n p) : CR μ1 d b n (te b n p) (.inr (te b n p, ts b n p, A, nc, wn)) ∧ FR d μ μ1 := by
  obtain ⟨t1, t2, t3, t4, t5, t6, t7⟩ := t
  obtain ⟨h1, o1, o2, o4, o7⟩ := h
  exact ⟨⟨h1.dd t6 (t7 2 (by omega)), (t7 13 (by omega)).trans o1, t1, Nat.le_refl _, te_le o4, t2, ts_le o4, o7.dd t6 (t7 11 (by omega))⟩, FR.dd t6 (t7 1 (by omega))⟩
/-- a text is read by both -/
theorem joint : ∀ (q fu1 fu2 t p : Nat) (μ ν : Mem) (A : SA) (nc : Nat → Nat) (wn : Nat → Nat → List Nat), q < fu1 → q < fu2 → t + q = 1101 → t ≤ p → CW μ d b n p A nc wn → RM ν m b n p A nc wn → VA A nc →
    ∃ x μ' ν', L_X5_readText_7 fu1 d (nI t) μ = some (x, μ') ∧ L_X9_load_71 fu2 m (nI 1) ν = B_X9_load_105 m x ν' ∧ FR d μ μ' ∧ RFr m ν ν' ∧
      ((x = nI 1 ∧ ∃ p1 ls1 p2 A' nc' wn', CR μ' d b n 0 (.inr (p1, ls1, A', nc', wn')) ∧ RM ν' m b n p2 A' nc' wn' ∧ VA A' nc') ∨ (x = nI 0 ∧ ∃ e, CR μ' d b n 0 (.inl e) ∧ RE ν' m e)) := by
  intro q
  induction q with
  | zero =>
    intro fu1 fu2 t p μ ν A nc wn hf1 hf2 ht htp h
    have := h.2.2.2.1
    have := h.1.tx.1
    omega
  | succ q ih =>
    intro fu1 fu2 t p μ ν A nc wn hf1 hf2 ht htp h r v
    obtain ⟨fu1, rfl⟩ : ∃ k, fu1 = k + 1 := ⟨fu1 - 1, by omega⟩
    obtain ⟨fu2, rfl⟩ : ∃ k, fu2 = k + 1 := ⟨fu2 - 1, by omega⟩
    have hn := h.1.tx.1
    have hpn : p ≤ n := h.2.2.2.1
    obtain ⟨μ1, e1, tt⟩ := x5_next h.1 h.2.2.1 hpn
    obtain ⟨hc1, fr1⟩ := cw_of h tt
    have hl := tk_le (b := b) (n := n) (p := p)
    have k0 := h.1.kd
    have k1 := hc1.1.kd
    have h13 : gI μ d 13 = nI 0 := h.2.1
    have n1100 : ¬ nI 1100 < nI t := by rw [nI_ltI (by decide) (by omega)]; omega
    have t5 := tt.2.2.1
    have hz : ZB A := h.2.2.2.2.2.2.2.1
    have c13 := r.g13
    obtain ⟨-, -, -, -, z0, z6⟩ := trc_1 hl
    have m0 := r.k0
    have hrw := x5_resw (μ := μ1) k1 t5 tt.2.2.2.2.1
    by_cases h0 : tk b n p = 0
    · -- the end of the text
      rw [h0] at t5 c13
      exact ⟨nI 1, μ1, ν, b5_end (by omega) k0 h13 e1 k1 t5, c9_end m0 c13, fr1, RFr.same, Or.inl ⟨rfl, te b n p, ts b n p, p, A, nc, wn, hc1.low (Nat.zero_le _), r, v⟩⟩
    · have n5 : ¬ gI μ1 d 5 = nI 0 := by rw [t5, nI_eq (by omega) (by decide)]; exact h0
      have c0 : ¬ gI ν m 13 = nI 0 := by rw [c13, nI_eq (by omega) (by decide)]; exact fun q => h0 (z0.mp q)
      -- what the reference does
      have refE : ∀ ν2, F_X9_statement m ν = some (nI 0, ν2) → L_X9_load_71 (fu2 + 1) m (nI 1) ν = B_X9_load_105 m (nI 0) ν2 := by
        intro ν2 e2
        obtain ⟨fu2, rfl⟩ : ∃ k, fu2 = k + 1 := ⟨fu2 - 1, by omega⟩
        rw [c9_st m0 c0 e2, c9_bad]
      by_cases hw : trw b n p = 0
      · -- no word that begins a statement
        rw [hw] at hrw
        obtain ⟨ν2, e2, f2, z⟩ := r.stmt0 hw
        obtain ⟨c3, f3⟩ := ce_of (lo := 0) h.1 hpn tt (ek_r (t := tk b n p)).1 (ek_r (t := tk b n p)).2
        refine ⟨nI 0, _, ν2, ?_, refE _ e2, f3, f2, Or.inr ⟨rfl, _, c3, z⟩⟩
        have f1 := x5_fail (v := nI (ek (tk b n p))) k1 hc1.2.1
        rw [tt.2.1] at f1
        exact b5_err (by omega) k0 h13 e1 k1 hl t5 h0 hrw rfl f1
      · obtain ⟨x2, ν2, e2, f2, r2⟩ := r.stmt v hz hw
        have tr2 : 2 ≤ trw b n p ∧ trw b n p < 18 := by have := trw_r (b := b) (n := n) (p := p); omega
        obtain ⟨μ2, e3, c3, fr3⟩ := x5_stmt (w := trw b n p) hc1 v.2.2
        have hstep := b5_step (fu := fu1) (t := t) tr2 (by omega) k0 h13 e1 k1 n5 hrw e3
        rcases r2 with ⟨rfl, p', ls', A', nc', wn', r3, v3, e'⟩ | ⟨rfl, e, z, e'⟩
        · -- the statement is whole; the semicolon
          obtain ⟨x4, ν4, e4, f4, r4⟩ := r_close r3
          rw [e'] at c3
          have m2 := r3.k0
          rcases r4 with ⟨rfl, r5, s5⟩ | ⟨rfl, e, z, s5⟩
          · rw [s5 ls' A'] at c3
            have hgt := tk_p (b := b) (n := n) (p := p) h0
            have hle : te b n p ≤ te b n p' := c3.2.2.2.1
            have c4 : CW μ2 d b n (te b n p') A' nc' wn' := by
              obtain ⟨x1, o1, o2, o3, o4, o5, o6, o7⟩ := c3
              exact ⟨x1, o1, o2, o4, o7⟩
            obtain ⟨x, μ', ν', i1, i2, i3, i4, i5⟩ := ih fu1 fu2 (t + 1) (te b n p') μ2 ν4 A' nc' wn' (by omega) (by omega) (by omega) (by omega) c4 r5 v3
            refine ⟨x, μ', ν', by rw [hstep]; exact i1, ?_, fr1.trans (fr3.trans i3), f2.trans (f4.trans i4), i5⟩
            rw [← i2]
            exact c9_cl m0 c0 e2 m2 e4 (Or.inr rfl)
          · rw [s5 ls' A'] at c3
            have i1 : L_X5_readText_7 fu1 d (nI (t + 1)) μ2 = some (nI 0, μ2) := by
              obtain ⟨fu1, rfl⟩ : ∃ k, fu1 = k + 1 := ⟨fu1 - 1, by omega⟩
              exact b5_stop (by omega) c3.1.kd (CE.ne c3.2)
            refine ⟨nI 0, μ2, ν4, by rw [hstep]; exact i1, ?_, fr1.trans fr3, f2.trans f4, Or.inr ⟨rfl, e, c3.low (Nat.zero_le _), z⟩⟩
            obtain ⟨fu2, rfl⟩ : ∃ k, fu2 = k + 1 := ⟨fu2 - 1, by omega⟩
            rw [c9_cl m0 c0 e2 m2 e4 (Or.inl rfl), c9_bad]
        · rw [e'] at c3
          have i1 : L_X5_readText_7 fu1 d (nI (t + 1)) μ2 = some (nI 0, μ2) := by
            obtain ⟨fu1, rfl⟩ : ∃ k, fu1 = k + 1 := ⟨fu1 - 1, by omega⟩
            exact b5_stop (by omega) c3.1.kd (CE.ne c3.2)
          exact ⟨nI 0, μ2, ν2, by rw [hstep]; exact i1, refE _ e2, fr1.trans fr3, f2, Or.inr ⟨rfl, e, c3.low (Nat.zero_le _), z⟩⟩
end JNT

/-! LAYER 3: the shapes of the things -/
def sm_K : List Nat := [3, 1, 6, 101, 6, 101, 6, 101, 6, 101, 6, 101, 6, 101, 6, 101, 6, 101, 101, 2, 101, 101, 101, 103, 101, 102, 4, 101, 101, 2, 101]
def sm_L : List Nat := [0, 0, 0, 60, 0, 60, 0, 60, 0, 60, 0, 60, 0, 60, 0, 60, 0, 60, 4, 0, 800, 6, 6, 6, 4, 40, 0, 4800, 120, 0, 800]
def sm_R : List (Nat × Nat × Nat) := [(0, 0, 1), (0, 1, 19), (0, 2, 21), (0, 3, 22), (0, 4, 23), (0, 5, 24), (0, 6, 25), (0, 7, 26), (0, 8, 29), (1, 0, 2), (1, 1, 4), (1, 2, 6), (1, 3, 8), (1, 4, 10), (1, 5, 12), (1, 6, 14), (1, 7, 16), (1, 8, 18), (2, 0, 3), (4, 0, 5), (6, 0, 7), (8, 0, 9), (10, 0, 11), (12, 0, 13), (14, 0, 15), (16, 0, 17), (19, 0, 20), (26, 0, 27), (26, 1, 28), (29, 0, 30)]
/-- a machine with its parts stands at r .. r + 30 -/
def SM (μ : Mem) (r : Nat) : Prop := 23 ≤ r ∧ (∀ i, i < 31 → gK μ (r + i) = sm_K.getD i 0) ∧ (∀ i, i < 31 → gL μ (r + i) = sm_L.getD i 0) ∧ ∀ p, p ∈ sm_R → gR μ (r + p.1) p.2.1 = r + p.2.2
theorem SM.to {μ μ' : Mem} {r : Nat} (h : SM μ r) (hk : gK μ' = gK μ) (hl : gL μ' = gL μ) (hr : gR μ' = gR μ) : SM μ' r := by unfold SM; rw [hk, hl, hr]; exact h
theorem SM.fx {P : Nat → Prop} {μ μ' : Mem} {r : Nat} (h : SM μ r) (f : Fx P μ μ') : SM μ' r := h.to f.1 f.2.1 f.2.2.2.1
theorem SM.k0 {μ : Mem} {r : Nat} (h : SM μ r) : gK μ r = 3 := h.2.1 0 (by decide)
theorem SM.k1 {μ : Mem} {r : Nat} (h : SM μ r) : gK μ (r + 1) = 1 := h.2.1 1 (by decide)
theorem SM.k2 {μ : Mem} {r : Nat} (h : SM μ r) : gK μ (r + 2) = 6 := h.2.1 2 (by decide)
theorem SM.k3 {μ : Mem} {r : Nat} (h : SM μ r) : gK μ (r + 3) = 101 := h.2.1 3 (by decide)
theorem SM.k4 {μ : Mem} {r : Nat} (h : SM μ r) : gK μ (r + 4) = 6 := h.2.1 4 (by decide)
theorem SM.k5 {μ : Mem} {r : Nat} (h : SM μ r) : gK μ (r + 5) = 101 := h.2.1 5 (by decide)
theorem SM.k6 {μ : Mem} {r : Nat} (h : SM μ r) : gK μ (r + 6) = 6 := h.2.1 6 (by decide)
theorem SM.k7 {μ : Mem} {r : Nat} (h : SM μ r) : gK μ (r + 7) = 101 := h.2.1 7 (by decide)
theorem SM.k8 {μ : Mem} {r : Nat} (h : SM μ r) : gK μ (r + 8) = 6 := h.2.1 8 (by decide)
theorem SM.k9 {μ : Mem} {r : Nat} (h : SM μ r) : gK μ (r + 9) = 101 := h.2.1 9 (by decide)
theorem SM.k10 {μ : Mem} {r : Nat} (h : SM μ r) : gK μ (r + 10) = 6 := h.2.1 10 (by decide)
theorem SM.k11 {μ : Mem} {r : Nat} (h : SM μ r) : gK μ (r + 11) = 101 := h.2.1 11 (by decide)
theorem SM.k12 {μ : Mem} {r : Nat} (h : SM μ r) : gK μ (r + 12) = 6 := h.2.1 12 (by decide)
theorem SM.k13 {μ : Mem} {r : Nat} (h : SM μ r) : gK μ (r + 13) = 101 := h.2.1 13 (by decide)
theorem SM.k14 {μ : Mem} {r : Nat} (h : SM μ r) : gK μ (r + 14) = 6 := h.2.1 14 (by decide)
theorem SM.k15 {μ : Mem} {r : Nat} (h : SM μ r) : gK μ (r + 15) = 101 := h.2.1 15 (by decide)
theorem SM.k16 {μ : Mem} {r : Nat} (h : SM μ r) : gK μ (r + 16) = 6 := h.2.1 16 (by decide)
theorem SM.k17 {μ : Mem} {r : Nat} (h : SM μ r) : gK μ (r + 17) = 101 := h.2.1 17 (by decide)
theorem SM.k18 {μ : Mem} {r : Nat} (h : SM μ r) : gK μ (r + 18) = 101 := h.2.1 18 (by decide)
theorem SM.k19 {μ : Mem} {r : Nat} (h : SM μ r) : gK μ (r + 19) = 2 := h.2.1 19 (by decide)
theorem SM.k20 {μ : Mem} {r : Nat} (h : SM μ r) : gK μ (r + 20) = 101 := h.2.1 20 (by decide)
theorem SM.k21 {μ : Mem} {r : Nat} (h : SM μ r) : gK μ (r + 21) = 101 := h.2.1 21 (by decide)
theorem SM.k22 {μ : Mem} {r : Nat} (h : SM μ r) : gK μ (r + 22) = 101 := h.2.1 22 (by decide)
theorem SM.k23 {μ : Mem} {r : Nat} (h : SM μ r) : gK μ (r + 23) = 103 := h.2.1 23 (by decide)
theorem SM.k24 {μ : Mem} {r : Nat} (h : SM μ r) : gK μ (r + 24) = 101 := h.2.1 24 (by decide)
theorem SM.k25 {μ : Mem} {r : Nat} (h : SM μ r) : gK μ (r + 25) = 102 := h.2.1 25 (by decide)
theorem SM.k26 {μ : Mem} {r : Nat} (h : SM μ r) : gK μ (r + 26) = 4 := h.2.1 26 (by decide)
theorem SM.k27 {μ : Mem} {r : Nat} (h : SM μ r) : gK μ (r + 27) = 101 := h.2.1 27 (by decide)
theorem SM.k28 {μ : Mem} {r : Nat} (h : SM μ r) : gK μ (r + 28) = 101 := h.2.1 28 (by decide)
theorem SM.k29 {μ : Mem} {r : Nat} (h : SM μ r) : gK μ (r + 29) = 2 := h.2.1 29 (by decide)
theorem SM.k30 {μ : Mem} {r : Nat} (h : SM μ r) : gK μ (r + 30) = 101 := h.2.1 30 (by decide)
theorem SM.l3 {μ : Mem} {r : Nat} (h : SM μ r) : gL μ (r + 3) = 60 := h.2.2.1 3 (by decide)
theorem SM.l5 {μ : Mem} {r : Nat} (h : SM μ r) : gL μ (r + 5) = 60 := h.2.2.1 5 (by decide)
theorem SM.l7 {μ : Mem} {r : Nat} (h : SM μ r) : gL μ (r + 7) = 60 := h.2.2.1 7 (by decide)
theorem SM.l9 {μ : Mem} {r : Nat} (h : SM μ r) : gL μ (r + 9) = 60 := h.2.2.1 9 (by decide)
theorem SM.l11 {μ : Mem} {r : Nat} (h : SM μ r) : gL μ (r + 11) = 60 := h.2.2.1 11 (by decide)
theorem SM.l13 {μ : Mem} {r : Nat} (h : SM μ r) : gL μ (r + 13) = 60 := h.2.2.1 13 (by decide)
theorem SM.l15 {μ : Mem} {r : Nat} (h : SM μ r) : gL μ (r + 15) = 60 := h.2.2.1 15 (by decide)
theorem SM.l17 {μ : Mem} {r : Nat} (h : SM μ r) : gL μ (r + 17) = 60 := h.2.2.1 17 (by decide)
theorem SM.l18 {μ : Mem} {r : Nat} (h : SM μ r) : gL μ (r + 18) = 4 := h.2.2.1 18 (by decide)
theorem SM.l20 {μ : Mem} {r : Nat} (h : SM μ r) : gL μ (r + 20) = 800 := h.2.2.1 20 (by decide)
theorem SM.l21 {μ : Mem} {r : Nat} (h : SM μ r) : gL μ (r + 21) = 6 := h.2.2.1 21 (by decide)
theorem SM.l22 {μ : Mem} {r : Nat} (h : SM μ r) : gL μ (r + 22) = 6 := h.2.2.1 22 (by decide)
theorem SM.l23 {μ : Mem} {r : Nat} (h : SM μ r) : gL μ (r + 23) = 6 := h.2.2.1 23 (by decide)
theorem SM.l24 {μ : Mem} {r : Nat} (h : SM μ r) : gL μ (r + 24) = 4 := h.2.2.1 24 (by decide)
theorem SM.l25 {μ : Mem} {r : Nat} (h : SM μ r) : gL μ (r + 25) = 40 := h.2.2.1 25 (by decide)
theorem SM.l27 {μ : Mem} {r : Nat} (h : SM μ r) : gL μ (r + 27) = 4800 := h.2.2.1 27 (by decide)
theorem SM.l28 {μ : Mem} {r : Nat} (h : SM μ r) : gL μ (r + 28) = 120 := h.2.2.1 28 (by decide)
theorem SM.l30 {μ : Mem} {r : Nat} (h : SM μ r) : gL μ (r + 30) = 800 := h.2.2.1 30 (by decide)
theorem SM.r0 {μ : Mem} {r : Nat} (h : SM μ r) : gR μ r 0 = r + 1 := h.2.2.2 (0, 0, 1) (by decide)
theorem SM.r1 {μ : Mem} {r : Nat} (h : SM μ r) : gR μ r 1 = r + 19 := h.2.2.2 (0, 1, 19) (by decide)
theorem SM.r2 {μ : Mem} {r : Nat} (h : SM μ r) : gR μ r 2 = r + 21 := h.2.2.2 (0, 2, 21) (by decide)
theorem SM.r3 {μ : Mem} {r : Nat} (h : SM μ r) : gR μ r 3 = r + 22 := h.2.2.2 (0, 3, 22) (by decide)
theorem SM.r4 {μ : Mem} {r : Nat} (h : SM μ r) : gR μ r 4 = r + 23 := h.2.2.2 (0, 4, 23) (by decide)
theorem SM.r5 {μ : Mem} {r : Nat} (h : SM μ r) : gR μ r 5 = r + 24 := h.2.2.2 (0, 5, 24) (by decide)
theorem SM.r6 {μ : Mem} {r : Nat} (h : SM μ r) : gR μ r 6 = r + 25 := h.2.2.2 (0, 6, 25) (by decide)
theorem SM.r7 {μ : Mem} {r : Nat} (h : SM μ r) : gR μ r 7 = r + 26 := h.2.2.2 (0, 7, 26) (by decide)
theorem SM.r8 {μ : Mem} {r : Nat} (h : SM μ r) : gR μ r 8 = r + 29 := h.2.2.2 (0, 8, 29) (by decide)
theorem SM.b0 {μ : Mem} {r : Nat} (h : SM μ r) : gR μ (r + 1) 0 = r + 2 := h.2.2.2 (1, 0, 2) (by decide)
theorem SM.b1 {μ : Mem} {r : Nat} (h : SM μ r) : gR μ (r + 1) 1 = r + 4 := h.2.2.2 (1, 1, 4) (by decide)
theorem SM.b2 {μ : Mem} {r : Nat} (h : SM μ r) : gR μ (r + 1) 2 = r + 6 := h.2.2.2 (1, 2, 6) (by decide)
theorem SM.b3 {μ : Mem} {r : Nat} (h : SM μ r) : gR μ (r + 1) 3 = r + 8 := h.2.2.2 (1, 3, 8) (by decide)
theorem SM.b4 {μ : Mem} {r : Nat} (h : SM μ r) : gR μ (r + 1) 4 = r + 10 := h.2.2.2 (1, 4, 10) (by decide)
theorem SM.b5 {μ : Mem} {r : Nat} (h : SM μ r) : gR μ (r + 1) 5 = r + 12 := h.2.2.2 (1, 5, 12) (by decide)
theorem SM.b6 {μ : Mem} {r : Nat} (h : SM μ r) : gR μ (r + 1) 6 = r + 14 := h.2.2.2 (1, 6, 14) (by decide)
theorem SM.b7 {μ : Mem} {r : Nat} (h : SM μ r) : gR μ (r + 1) 7 = r + 16 := h.2.2.2 (1, 7, 16) (by decide)
theorem SM.b8 {μ : Mem} {r : Nat} (h : SM μ r) : gR μ (r + 1) 8 = r + 18 := h.2.2.2 (1, 8, 18) (by decide)
theorem SM.t0 {μ : Mem} {r : Nat} (h : SM μ r) : gR μ (r + 2) 0 = r + 3 := h.2.2.2 (2, 0, 3) (by decide)
theorem SM.t1 {μ : Mem} {r : Nat} (h : SM μ r) : gR μ (r + 4) 0 = r + 5 := h.2.2.2 (4, 0, 5) (by decide)
theorem SM.t2 {μ : Mem} {r : Nat} (h : SM μ r) : gR μ (r + 6) 0 = r + 7 := h.2.2.2 (6, 0, 7) (by decide)
theorem SM.t3 {μ : Mem} {r : Nat} (h : SM μ r) : gR μ (r + 8) 0 = r + 9 := h.2.2.2 (8, 0, 9) (by decide)
theorem SM.t4 {μ : Mem} {r : Nat} (h : SM μ r) : gR μ (r + 10) 0 = r + 11 := h.2.2.2 (10, 0, 11) (by decide)
theorem SM.t5 {μ : Mem} {r : Nat} (h : SM μ r) : gR μ (r + 12) 0 = r + 13 := h.2.2.2 (12, 0, 13) (by decide)
theorem SM.t6 {μ : Mem} {r : Nat} (h : SM μ r) : gR μ (r + 14) 0 = r + 15 := h.2.2.2 (14, 0, 15) (by decide)
theorem SM.t7 {μ : Mem} {r : Nat} (h : SM μ r) : gR μ (r + 16) 0 = r + 17 := h.2.2.2 (16, 0, 17) (by decide)
theorem SM.d0 {μ : Mem} {r : Nat} (h : SM μ r) : gR μ (r + 19) 0 = r + 20 := h.2.2.2 (19, 0, 20) (by decide)
theorem SM.p0 {μ : Mem} {r : Nat} (h : SM μ r) : gR μ (r + 26) 0 = r + 27 := h.2.2.2 (26, 0, 27) (by decide)
theorem SM.p1 {μ : Mem} {r : Nat} (h : SM μ r) : gR μ (r + 26) 1 = r + 28 := h.2.2.2 (26, 1, 28) (by decide)
theorem SM.u0 {μ : Mem} {r : Nat} (h : SM μ r) : gR μ (r + 29) 0 = r + 30 := h.2.2.2 (29, 0, 30) (by decide)
/-- a table at t -/
def ST (μ : Mem) (t : Nat) : Prop := gK μ t = 6 ∧ gR μ t 0 = t + 1 ∧ gK μ (t + 1) = 101 ∧ gL μ (t + 1) = 60
theorem ST.fx {P : Nat → Prop} {μ μ' : Mem} {r : Nat} (h : ST μ r) (f : Fx P μ μ') : ST μ' r := by unfold ST; rw [f.1, f.2.1, f.2.2.2.1]; exact h
/-- a deck at d -/
def SD (μ : Mem) (d : Nat) : Prop := gK μ d = 2 ∧ gR μ d 0 = d + 1 ∧ gK μ (d + 1) = 101 ∧ gL μ (d + 1) = 800
theorem SD.fx {P : Nat → Prop} {μ μ' : Mem} {r : Nat} (h : SD μ r) (f : Fx P μ μ') : SD μ' r := by unfold SD; rw [f.1, f.2.1, f.2.2.2.1]; exact h
/-- a paper at p -/
def SP (μ : Mem) (p : Nat) : Prop := gK μ p = 4 ∧ gR μ p 0 = p + 1 ∧ gR μ p 1 = p + 2 ∧ gK μ (p + 1) = 101 ∧ gL μ (p + 1) = 4800 ∧ gK μ (p + 2) = 101 ∧ gL μ (p + 2) = 120
theorem SP.fx {P : Nat → Prop} {μ μ' : Mem} {r : Nat} (h : SP μ r) (f : Fx P μ μ') : SP μ' r := by unfold SP; rw [f.1, f.2.1, f.2.2.2.1]; exact h
/-- a plugboard at b -/
def SB (μ : Mem) (b : Nat) : Prop := gK μ b = 1 ∧ (∀ k, k < 8 → gR μ b k = b + 1 + 2 * k ∧ ST μ (b + 1 + 2 * k)) ∧ gR μ b 8 = b + 17 ∧ gK μ (b + 17) = 101 ∧ gL μ (b + 17) = 4
theorem SB.fx {P : Nat → Prop} {μ μ' : Mem} {r : Nat} (h : SB μ r) (f : Fx P μ μ') : SB μ' r := by unfold SB ST; rw [f.1, f.2.1, f.2.2.2.1]; exact h
theorem SM.st0 {μ : Mem} {r : Nat} (h : SM μ r) : ST μ (r + 2) := ⟨h.k2, h.t0, h.k3, h.l3⟩
theorem SM.st1 {μ : Mem} {r : Nat} (h : SM μ r) : ST μ (r + 4) := ⟨h.k4, h.t1, h.k5, h.l5⟩
theorem SM.st2 {μ : Mem} {r : Nat} (h : SM μ r) : ST μ (r + 6) := ⟨h.k6, h.t2, h.k7, h.l7⟩
theorem SM.st3 {μ : Mem} {r : Nat} (h : SM μ r) : ST μ (r + 8) := ⟨h.k8, h.t3, h.k9, h.l9⟩
theorem SM.st4 {μ : Mem} {r : Nat} (h : SM μ r) : ST μ (r + 10) := ⟨h.k10, h.t4, h.k11, h.l11⟩
theorem SM.st5 {μ : Mem} {r : Nat} (h : SM μ r) : ST μ (r + 12) := ⟨h.k12, h.t5, h.k13, h.l13⟩
theorem SM.st6 {μ : Mem} {r : Nat} (h : SM μ r) : ST μ (r + 14) := ⟨h.k14, h.t6, h.k15, h.l15⟩
theorem SM.st7 {μ : Mem} {r : Nat} (h : SM μ r) : ST μ (r + 16) := ⟨h.k16, h.t7, h.k17, h.l17⟩
theorem SM.sd {μ : Mem} {r : Nat} (h : SM μ r) : SD μ (r + 19) := ⟨h.k19, h.d0, h.k20, h.l20⟩
theorem SM.su {μ : Mem} {r : Nat} (h : SM μ r) : SD μ (r + 29) := ⟨h.k29, h.u0, h.k30, h.l30⟩
theorem SM.sp {μ : Mem} {r : Nat} (h : SM μ r) : SP μ (r + 26) := ⟨h.k26, h.p0, h.p1, h.k27, h.l27, h.k28, h.l28⟩
theorem SM.sb {μ : Mem} {r : Nat} (h : SM μ r) : SB μ (r + 1) := ⟨h.k1, fun k hk => by
  match k, hk with
  | 0, _ => exact ⟨h.b0, h.st0⟩
  | 1, _ => exact ⟨h.b1, h.st1⟩
  | 2, _ => exact ⟨h.b2, h.st2⟩
  | 3, _ => exact ⟨h.b3, h.st3⟩
  | 4, _ => exact ⟨h.b4, h.st4⟩
  | 5, _ => exact ⟨h.b5, h.st5⟩
  | 6, _ => exact ⟨h.b6, h.st6⟩
  | 7, _ => exact ⟨h.b7, h.st7⟩
  | k + 8, hk => omega, h.b8, h.k18, h.l18⟩

/-! LAYER 3, BASE: pure steps over the shallow functions -/
theorem q_bl {α β : Type} (a : α) (f : α → Option β) : bl a f = f a := of_eq_true (eq_true rfl)
theorem q_ba {β : Type} {c : Prop} {d : Decidable c} {k : Option β} (h : c) : @ba β c d k = k := if_pos h
theorem q_baT {β : Type} {d : Decidable True} {k : Option β} : @ba β True d k = k := if_pos trivial
theorem q_pr {α β : Type} (f : α → Mem → Option β) (a : α) (μ : Mem) : pr f (a, μ) = f a μ := of_eq_true (eq_true rfl)
theorem q_ob {α β : Type} (a : α) (f : α → Option β) : Option.bind (some a) f = f a := of_eq_true (eq_true rfl)
theorem q_it {α : Sort _} {c : Prop} {d : Decidable c} {a b : α} (h : c) : @ite α c d a b = a := if_pos h
theorem q_if {α : Sort _} {c : Prop} {d : Decidable c} {a b : α} (h : ¬ c) : @ite α c d a b = b := if_neg h
theorem q_iT {α : Sort _} {d : Decidable True} {a b : α} : @ite α True d a b = a := if_pos trivial
theorem q_iN {α : Sort _} {d : Decidable False} {a b : α} : @ite α False d a b = b := if_neg id
theorem FU_gt {k : Nat} (h : k < 100000000) : k < FU := Nat.lt_trans h (Nat.lt_of_succ_le (Nat.le_of_ble_eq_true rfl))
-- getters over setters
theorem q_kI (μ : Mem) (a j : Nat) (v : Int32) : gK (stI μ a j v) = gK μ := of_eq_true (eq_true rfl)
theorem q_lI (μ : Mem) (a j : Nat) (v : Int32) : gL (stI μ a j v) = gL μ := of_eq_true (eq_true rfl)
theorem q_nI (μ : Mem) (a j : Nat) (v : Int32) : gN (stI μ a j v) = gN μ := of_eq_true (eq_true rfl)
theorem q_rI (μ : Mem) (a j : Nat) (v : Int32) : gR (stI μ a j v) = gR μ := of_eq_true (eq_true rfl)
theorem q_iI (μ : Mem) (a j : Nat) (v : Int32) : gI (stI μ a j v) = up2 (gI μ) a j v := of_eq_true (eq_true rfl)
theorem q_jI (μ : Mem) (a j : Nat) (v : Int32) : gJ (stI μ a j v) = gJ μ := of_eq_true (eq_true rfl)
theorem q_dI (μ : Mem) (a j : Nat) (v : Int32) : gD (stI μ a j v) = gD μ := of_eq_true (eq_true rfl)
theorem q_kJ (μ : Mem) (a j : Nat) (v : Int64) : gK (stJ μ a j v) = gK μ := of_eq_true (eq_true rfl)
theorem q_lJ (μ : Mem) (a j : Nat) (v : Int64) : gL (stJ μ a j v) = gL μ := of_eq_true (eq_true rfl)
theorem q_nJ (μ : Mem) (a j : Nat) (v : Int64) : gN (stJ μ a j v) = gN μ := of_eq_true (eq_true rfl)
theorem q_rJ (μ : Mem) (a j : Nat) (v : Int64) : gR (stJ μ a j v) = gR μ := of_eq_true (eq_true rfl)
theorem q_iJ (μ : Mem) (a j : Nat) (v : Int64) : gI (stJ μ a j v) = gI μ := of_eq_true (eq_true rfl)
theorem q_jJ (μ : Mem) (a j : Nat) (v : Int64) : gJ (stJ μ a j v) = up2 (gJ μ) a j v := of_eq_true (eq_true rfl)
theorem q_dJ (μ : Mem) (a j : Nat) (v : Int64) : gD (stJ μ a j v) = gD μ := of_eq_true (eq_true rfl)
theorem q_kC (μ : Mem) (a sp b dp n : Nat) : gK (stC μ a sp b dp n) = gK μ := of_eq_true (eq_true rfl)
theorem q_lC (μ : Mem) (a sp b dp n : Nat) : gL (stC μ a sp b dp n) = gL μ := of_eq_true (eq_true rfl)
theorem q_nC (μ : Mem) (a sp b dp n : Nat) : gN (stC μ a sp b dp n) = gN μ := of_eq_true (eq_true rfl)
theorem q_rC (μ : Mem) (a sp b dp n : Nat) : gR (stC μ a sp b dp n) = gR μ := of_eq_true (eq_true rfl)
theorem q_jC (μ : Mem) (a sp b dp n : Nat) : gJ (stC μ a sp b dp n) = gJ μ := of_eq_true (eq_true rfl)
theorem q_dC (μ : Mem) (a sp b dp n : Nat) : gD (stC μ a sp b dp n) = gD μ := of_eq_true (eq_true rfl)
theorem q_iC (μ : Mem) (a sp b dp n : Nat) : gI (stC μ a sp b dp n) = fun c k => if c = b ∧ dp ≤ k ∧ k < dp + n then gI μ a (sp + (k - dp)) else gI μ c k := of_eq_true (eq_true rfl)
theorem q_us {α : Type} (f : Nat → Nat → α) (a j : Nat) (v : α) : up2 f a j v a j = v := by unfold up2; rw [if_pos ⟨rfl, rfl⟩]
theorem q_un {α : Type} {f : Nat → Nat → α} {a j b k : Nat} {v : α} (h : ¬ (b = a ∧ k = j)) : up2 f a j v b k = f b k := by unfold up2; rw [if_neg h]
theorem q_ua {α : Type} {f : Nat → Nat → α} {a j b : Nat} {v : α} (h : ¬ b = a) : up2 f a j v b = f b := by funext k; unfold up2; rw [if_neg (fun e => h e.1)]
-- frames
/-- nothing has changed but ints and longs of the things that P names -/
def Fx (P : Nat → Prop) (μ μ' : Mem) : Prop := gK μ' = gK μ ∧ gL μ' = gL μ ∧ gN μ' = gN μ ∧ gR μ' = gR μ ∧ gD μ' = gD μ ∧ ∀ a, ¬ P a → gI μ' a = gI μ a ∧ gJ μ' a = gJ μ a
theorem Fx.same {P : Nat → Prop} {μ : Mem} : Fx P μ μ := ⟨.refl _, .refl _, .refl _, .refl _, .refl _, fun _ _ => ⟨.refl _, .refl _⟩⟩
theorem Fx.trans {P : Nat → Prop} {μ1 μ2 μ3 : Mem} (h : Fx P μ1 μ2) (k : Fx P μ2 μ3) : Fx P μ1 μ3 :=
  ⟨k.1.trans h.1, k.2.1.trans h.2.1, k.2.2.1.trans h.2.2.1, k.2.2.2.1.trans h.2.2.2.1, k.2.2.2.2.1.trans h.2.2.2.2.1, fun a ha => ⟨((k.2.2.2.2.2 a ha).1).trans (h.2.2.2.2.2 a ha).1, ((k.2.2.2.2.2 a ha).2).trans (h.2.2.2.2.2 a ha).2⟩⟩
theorem Fx.mono {P Q : Nat → Prop} {μ1 μ2 : Mem} (h : Fx P μ1 μ2) (k : ∀ a, P a → Q a) : Fx Q μ1 μ2 :=
  ⟨h.1, h.2.1, h.2.2.1, h.2.2.2.1, h.2.2.2.2.1, fun a ha => h.2.2.2.2.2 a (fun hp => ha (k a hp))⟩
theorem Fx.I {P : Nat → Prop} {μ μ' : Mem} (h : Fx P μ μ') {a : Nat} (ha : ¬ P a) : gI μ' a = gI μ a := (h.2.2.2.2.2 a ha).1
theorem Fx.J {P : Nat → Prop} {μ μ' : Mem} (h : Fx P μ μ') {a : Nat} (ha : ¬ P a) : gJ μ' a = gJ μ a := (h.2.2.2.2.2 a ha).2
theorem Fx.stI {P : Nat → Prop} {μ : Mem} {a j : Nat} {v : Int32} (ha : P a) : Fx P μ (stI μ a j v) :=
  ⟨.refl _, .refl _, .refl _, .refl _, .refl _, fun b hb => ⟨q_ua (fun e => hb (e ▸ ha)), .refl _⟩⟩
theorem Fx.stJ {P : Nat → Prop} {μ : Mem} {a j : Nat} {v : Int64} (ha : P a) : Fx P μ (stJ μ a j v) :=
  ⟨.refl _, .refl _, .refl _, .refl _, .refl _, fun b hb => ⟨.refl _, q_ua (fun e => hb (e ▸ ha))⟩⟩
theorem Fx.stC {P : Nat → Prop} {μ : Mem} {a sp b dp n : Nat} (ha : P b) : Fx P μ (stC μ a sp b dp n) :=
  ⟨.refl _, .refl _, .refl _, .refl _, .refl _, fun c hc => ⟨by funext k; show (if c = b ∧ dp ≤ k ∧ k < dp + n then gI μ a (sp + (k - dp)) else gI μ c k) = _; rw [if_neg (show ¬ (c = b ∧ dp ≤ k ∧ k < dp + n) from fun e => hc (e.1 ▸ ha))], .refl _⟩⟩
theorem q_iCo {μ : Mem} {a sp b dp n c : Nat} (h : ¬ c = b) : gI (stC μ a sp b dp n) c = gI μ c := by
  funext k
  show (if c = b ∧ dp ≤ k ∧ k < dp + n then gI μ a (sp + (k - dp)) else gI μ c k) = _
  rw [if_neg (show ¬ (c = b ∧ dp ≤ k ∧ k < dp + n) from fun e => h e.1)]
theorem q_iCi {μ : Mem} {a sp b dp n k : Nat} (h1 : dp ≤ k) (h2 : k < dp + n) : gI (stC μ a sp b dp n) b k = gI μ a (sp + (k - dp)) := by
  show (if b = b ∧ dp ≤ k ∧ k < dp + n then gI μ a (sp + (k - dp)) else gI μ b k) = _
  rw [if_pos ⟨rfl, h1, h2⟩]
-- numbers
theorem n_0 : (0 : Int32) = nI 0 := of_eq_true (eq_true rfl)
theorem n_1 : (1 : Int32) = nI 1 := of_eq_true (eq_true rfl)
theorem n_2 : (2 : Int32) = nI 2 := of_eq_true (eq_true rfl)
theorem n_3 : (3 : Int32) = nI 3 := of_eq_true (eq_true rfl)
theorem n_4 : (4 : Int32) = nI 4 := of_eq_true (eq_true rfl)
theorem n_5 : (5 : Int32) = nI 5 := of_eq_true (eq_true rfl)
theorem n_6 : (6 : Int32) = nI 6 := of_eq_true (eq_true rfl)
theorem n_7 : (7 : Int32) = nI 7 := of_eq_true (eq_true rfl)
theorem n_8 : (8 : Int32) = nI 8 := of_eq_true (eq_true rfl)
theorem n_9 : (9 : Int32) = nI 9 := of_eq_true (eq_true rfl)
theorem n_10 : (10 : Int32) = nI 10 := of_eq_true (eq_true rfl)
theorem n_11 : (11 : Int32) = nI 11 := of_eq_true (eq_true rfl)
theorem n_12 : (12 : Int32) = nI 12 := of_eq_true (eq_true rfl)
theorem n_14 : (14 : Int32) = nI 14 := of_eq_true (eq_true rfl)
theorem n_15 : (15 : Int32) = nI 15 := of_eq_true (eq_true rfl)
theorem n_16 : (16 : Int32) = nI 16 := of_eq_true (eq_true rfl)
theorem n_20 : (20 : Int32) = nI 20 := of_eq_true (eq_true rfl)
theorem n_24 : (24 : Int32) = nI 24 := of_eq_true (eq_true rfl)
theorem n_25 : (25 : Int32) = nI 25 := of_eq_true (eq_true rfl)
theorem n_32 : (32 : Int32) = nI 32 := of_eq_true (eq_true rfl)
theorem n_36 : (36 : Int32) = nI 36 := of_eq_true (eq_true rfl)
theorem n_40 : (40 : Int32) = nI 40 := of_eq_true (eq_true rfl)
theorem n_41 : (41 : Int32) = nI 41 := of_eq_true (eq_true rfl)
theorem n_42 : (42 : Int32) = nI 42 := of_eq_true (eq_true rfl)
theorem n_43 : (43 : Int32) = nI 43 := of_eq_true (eq_true rfl)
theorem n_45 : (45 : Int32) = nI 45 := of_eq_true (eq_true rfl)
theorem n_46 : (46 : Int32) = nI 46 := of_eq_true (eq_true rfl)
theorem n_48 : (48 : Int32) = nI 48 := of_eq_true (eq_true rfl)
theorem n_57 : (57 : Int32) = nI 57 := of_eq_true (eq_true rfl)
theorem n_59 : (59 : Int32) = nI 59 := of_eq_true (eq_true rfl)
theorem n_60 : (60 : Int32) = nI 60 := of_eq_true (eq_true rfl)
theorem n_73 : (73 : Int32) = nI 73 := of_eq_true (eq_true rfl)
theorem n_76 : (76 : Int32) = nI 76 := of_eq_true (eq_true rfl)
theorem n_97 : (97 : Int32) = nI 97 := of_eq_true (eq_true rfl)
theorem n_99 : (99 : Int32) = nI 99 := of_eq_true (eq_true rfl)
theorem n_100 : (100 : Int32) = nI 100 := of_eq_true (eq_true rfl)
theorem n_106 : (106 : Int32) = nI 106 := of_eq_true (eq_true rfl)
theorem n_109 : (109 : Int32) = nI 109 := of_eq_true (eq_true rfl)
theorem n_120 : (120 : Int32) = nI 120 := of_eq_true (eq_true rfl)
theorem n_122 : (122 : Int32) = nI 122 := of_eq_true (eq_true rfl)
theorem n_136 : (136 : Int32) = nI 136 := of_eq_true (eq_true rfl)
theorem n_160 : (160 : Int32) = nI 160 := of_eq_true (eq_true rfl)
theorem n_176 : (176 : Int32) = nI 176 := of_eq_true (eq_true rfl)
theorem n_200 : (200 : Int32) = nI 200 := of_eq_true (eq_true rfl)
theorem n_255 : (255 : Int32) = nI 255 := of_eq_true (eq_true rfl)
theorem n_800 : (800 : Int32) = nI 800 := of_eq_true (eq_true rfl)
theorem n_1000 : (1000 : Int32) = nI 1000 := of_eq_true (eq_true rfl)
theorem n_1001 : (1001 : Int32) = nI 1001 := of_eq_true (eq_true rfl)
theorem n_1002 : (1002 : Int32) = nI 1002 := of_eq_true (eq_true rfl)
theorem n_1003 : (1003 : Int32) = nI 1003 := of_eq_true (eq_true rfl)
theorem n_1006 : (1006 : Int32) = nI 1006 := of_eq_true (eq_true rfl)
theorem n_1012 : (1012 : Int32) = nI 1012 := of_eq_true (eq_true rfl)
theorem n_1018 : (1018 : Int32) = nI 1018 := of_eq_true (eq_true rfl)
theorem n_1019 : (1019 : Int32) = nI 1019 := of_eq_true (eq_true rfl)
theorem n_1020 : (1020 : Int32) = nI 1020 := of_eq_true (eq_true rfl)
theorem n_1100 : (1100 : Int32) = nI 1100 := of_eq_true (eq_true rfl)
theorem n_1140 : (1140 : Int32) = nI 1140 := of_eq_true (eq_true rfl)
theorem n_4800 : (4800 : Int32) = nI 4800 := of_eq_true (eq_true rfl)
theorem n_4920 : (4920 : Int32) = nI 4920 := of_eq_true (eq_true rfl)
theorem n_5940 : (5940 : Int32) = nI 5940 := of_eq_true (eq_true rfl)
theorem n_6740 : (6740 : Int32) = nI 6740 := of_eq_true (eq_true rfl)
theorem n_20220 : (20220 : Int32) = nI 20220 := of_eq_true (eq_true rfl)
theorem q_m1 (n : Nat) : nI (n + 1) + -nI 1 = nI n := pk_m1 n
theorem n_m1 : (-1 : Int32) = -nI 1 := by decide +kernel
theorem nI_lt0 {n : Nat} (h : n < 2 ^ 31) : (nI n < nI 0) = False := eq_false (by rw [nI_ltI h (by decide)]; omega)
theorem nI_eqm {n : Nat} (h : n < 2 ^ 31) : (nI n = -nI 1) = False := eq_false (fun e => by
  have h1 := congrArg Int32.toInt e
  rw [nI_toInt h, show (-nI 1).toInt = -1 from by decide +kernel] at h1
  omega)
theorem m1_eq {n : Nat} (h : n < 2 ^ 31) : (-nI 1 = nI n) = False := eq_false (fun e => by
  have h1 := nI_eqm h
  exact h1 ▸ e.symm)
theorem m1_lt {n : Nat} (h : n < 2 ^ 31) : (-nI 1 < nI n) = True := eq_true (by
  rw [Int32.lt_iff_toInt_lt, nI_toInt h, show (-nI 1).toInt = -1 from by decide +kernel]; omega)
theorem m1_nlt {n : Nat} (h : n < 2 ^ 31) : (nI n < -nI 1) = False := eq_false (by
  rw [Int32.lt_iff_toInt_lt, nI_toInt h, show (-nI 1).toInt = -1 from by decide +kernel]; omega)
theorem m1_le {n : Nat} (h : n < 2 ^ 31) : (-nI 1 ≤ nI n) = True := eq_true (by
  rw [Int32.le_iff_toInt_le, nI_toInt h, show (-nI 1).toInt = -1 from by decide +kernel]; omega)
theorem m1_nle {n : Nat} (h : n < 2 ^ 31) : (nI n ≤ -nI 1) = False := eq_false (by
  rw [Int32.le_iff_toInt_le, nI_toInt h, show (-nI 1).toInt = -1 from by decide +kernel]; omega)
theorem q_inb {n N : Nat} (hN : n < 2 ^ 31) (h : n < N) : inb (nI n) N := by
  unfold inb; rw [nI_toInt hN]; omega
theorem q_bi {β : Type} {n N : Nat} {d : Decidable (inb (nI n) N)} {k : Option β} (hN : n < 2 ^ 31) (h : n < N) : @ba β (inb (nI n) N) d k = k := if_pos (q_inb hN h)
theorem q_of (n : Nat) : Int32.ofNat n = nI n := of_eq_true (eq_true rfl)
theorem b01 {c : Prop} {d : Decidable c} : (@ite _ c d (nI 1) (nI 0) = nI 0) = ¬ c := by
  by_cases h : c
  · rw [if_pos h]; exact propext ⟨fun e => absurd e (by decide +kernel), fun e => absurd h e⟩
  · rw [if_neg h]; exact propext ⟨fun _ => h, fun _ => .refl _⟩
theorem b011 {c : Prop} {d : Decidable c} : (@ite _ c d (nI 1) (nI 0) = nI 1) = c := by
  by_cases h : c
  · rw [if_pos h]; exact propext ⟨fun _ => h, fun _ => rfl⟩
  · rw [if_neg h]; exact propext ⟨fun e => absurd e (by decide +kernel), fun e => absurd e h⟩
theorem q_em {c : Prop} : (¬ c ∨ c) = True := eq_true ((Classical.em c).symm)
/-- a count that fits -/
def isN (x : Int32) (lo hi : Nat) : Prop := ∃ n, x = nI n ∧ lo ≤ n ∧ n ≤ hi
def nt (x : Int32) : Nat := x.toNatClampNeg
theorem isN.ex {x : Int32} {lo hi : Nat} (h : isN x lo hi) (hh : hi < 2 ^ 31) : x = nI (nt x) ∧ lo ≤ nt x ∧ nt x ≤ hi := by
  obtain ⟨n, rfl, h1, h2⟩ := h
  have : nt (nI n) = n := nI_clamp (by omega)
  rw [this]; exact ⟨.refl _, h1, h2⟩
theorem nt_nI {n : Nat} (h : n < 2 ^ 31) : nt (nI n) = n := nI_clamp h
-- the fillings of arrays
theorem stF_step (μ : Mem) (a lo hi : Nat) (v : Int32) (h : lo < hi) : stF (stI μ a lo v) a (lo + 1) hi v = stF μ a lo hi v := by
  unfold stF
  simp only [q_kI, q_lI, q_nI, q_rI, q_jI, q_dI]
  congr 5
  funext c k
  show (if c = a ∧ lo + 1 ≤ k ∧ k < hi then v else up2 (gI μ) a lo v c k) = if c = a ∧ lo ≤ k ∧ k < hi then v else gI μ c k
  unfold up2
  by_cases hc : c = a
  · by_cases hk : k = lo
    · subst hk; subst hc; simp only [true_and]; rw [if_neg (by omega), if_pos trivial, if_pos (by omega)]
    · simp only [hc, hk, true_and, and_false, if_false]
      by_cases h2 : lo + 1 ≤ k ∧ k < hi
      · rw [if_pos h2, if_pos (by omega)]
      · rw [if_neg h2, if_neg (by omega)]
  · simp only [hc, false_and, if_false]
theorem stF_0 (μ : Mem) (a lo : Nat) (v : Int32) : stF μ a lo lo v = μ := by
  unfold stF
  have : (fun c k => if c = a ∧ lo ≤ k ∧ k < lo then v else gI μ c k) = gI μ := by
    funext c k; rw [if_neg (by omega)]
  rw [this]; rfl
theorem q_kF (μ : Mem) (a lo hi : Nat) (v : Int32) : gK (stF μ a lo hi v) = gK μ := of_eq_true (eq_true rfl)
theorem q_lF (μ : Mem) (a lo hi : Nat) (v : Int32) : gL (stF μ a lo hi v) = gL μ := of_eq_true (eq_true rfl)
theorem q_nF (μ : Mem) (a lo hi : Nat) (v : Int32) : gN (stF μ a lo hi v) = gN μ := of_eq_true (eq_true rfl)
theorem q_rF (μ : Mem) (a lo hi : Nat) (v : Int32) : gR (stF μ a lo hi v) = gR μ := of_eq_true (eq_true rfl)
theorem q_jF (μ : Mem) (a lo hi : Nat) (v : Int32) : gJ (stF μ a lo hi v) = gJ μ := of_eq_true (eq_true rfl)
theorem q_dF (μ : Mem) (a lo hi : Nat) (v : Int32) : gD (stF μ a lo hi v) = gD μ := of_eq_true (eq_true rfl)
theorem q_iF (μ : Mem) (a lo hi : Nat) (v : Int32) (c k : Nat) : gI (stF μ a lo hi v) c k = if c = a ∧ lo ≤ k ∧ k < hi then v else gI μ c k := of_eq_true (eq_true rfl)
theorem q_iFo {μ : Mem} {a lo hi : Nat} {v : Int32} {c : Nat} (h : ¬ c = a) : gI (stF μ a lo hi v) c = gI μ c := by
  funext k; rw [q_iF, if_neg (fun e => h e.1)]
theorem Fx.stF {P : Nat → Prop} {μ : Mem} {a lo hi : Nat} {v : Int32} (ha : P a) : Fx P μ (stF μ a lo hi v) :=
  ⟨.refl _, .refl _, .refl _, .refl _, .refl _, fun b hb => ⟨q_iFo (fun e => hb (e ▸ ha)), .refl _⟩⟩
theorem l_fill {r : Nat} {v : Int32} : ∀ (m n i : Nat) (μ : Mem), m < n → gK μ r = 101 → i + m ≤ gL μ r → gL μ r < 2 ^ 30 → L_J7_fill_fda19_10 n r (nI (i + m)) v (nI i) μ = some (stF μ r i (i + m) v) := by
  intro m
  induction m with
  | zero =>
    intro n i μ hn hk hl hb
    obtain ⟨n, rfl⟩ : ∃ k, n = k + 1 := ⟨n - 1, by omega⟩
    simp (disch := first | assumption | omega) only [q_bl, q_baT, q_bi, q_ba, q_pr, q_ob, q_iT, q_iN, q_it, q_if, q_of, nI_add, pk_mul, pk_sub, nI_leI, nI_ltI, nI_eq, nI_clamp, nI_lt0, nI_eqm, m1_eq, true_or, or_true, not_false_eq_true, m1_lt, m1_nlt, m1_le, m1_nle, b01, b011, q_em, q_m1, n_0, n_1, n_2, n_3, n_4, n_5, n_6, n_7, n_8, n_9, n_10, n_11, n_12, n_14, n_15, n_16, n_20, n_24, n_25, n_32, n_36, n_40, n_41, n_42, n_43, n_45, n_46, n_48, n_57, n_59, n_60, n_73, n_76, n_97, n_99, n_100, n_106, n_109, n_120, n_122, n_136, n_160, n_176, n_200, n_255, n_800, n_1000, n_1001, n_1002, n_1003, n_1006, n_1012, n_1018, n_1019, n_1020, n_1100, n_1140, n_4800, n_4920, n_5940, n_6740, n_20220, L_J7_fill_fda19_10, B_J7_fill_fda19_10, Nat.add_zero, stF_0]
  | succ m ih =>
    intro n i μ hn hk hl hb
    obtain ⟨n, rfl⟩ : ∃ k, n = k + 1 := ⟨n - 1, by omega⟩
    have := ih n (i + 1) (stI μ r i v) (by omega) hk (by rw [q_lI]; omega) hb
    rw [show i + 1 + m = i + (m + 1) from by omega, stF_step _ _ _ _ _ (by omega)] at this
    simp (disch := first | assumption | omega) only [q_bl, q_baT, q_bi, q_ba, q_pr, q_ob, q_iT, q_iN, q_it, q_if, q_of, nI_add, pk_mul, pk_sub, nI_leI, nI_ltI, nI_eq, nI_clamp, nI_lt0, nI_eqm, m1_eq, true_or, or_true, not_false_eq_true, m1_lt, m1_nlt, m1_le, m1_nle, b01, b011, q_em, q_m1, n_0, n_1, n_2, n_3, n_4, n_5, n_6, n_7, n_8, n_9, n_10, n_11, n_12, n_14, n_15, n_16, n_20, n_24, n_25, n_32, n_36, n_40, n_41, n_42, n_43, n_45, n_46, n_48, n_57, n_59, n_60, n_73, n_76, n_97, n_99, n_100, n_106, n_109, n_120, n_122, n_136, n_160, n_176, n_200, n_255, n_800, n_1000, n_1001, n_1002, n_1003, n_1006, n_1012, n_1018, n_1019, n_1020, n_1100, n_1140, n_4800, n_4920, n_5940, n_6740, n_20220, L_J7_fill_fda19_10, B_J7_fill_fda19_10, hk, this]
theorem f_fill {r i e : Nat} {v : Int32} {μ : Mem} (hk : gK μ r = 101) (hie : i ≤ e) (hl : e ≤ gL μ r) (hb : gL μ r < 1000000) : F_J7_fill_fda19 r (nI i) (nI e) v μ = some (stF μ r i e v) := by
  have := l_fill (v := v) (e - i) FU i μ (FU_gt (by omega)) hk (by omega) (by omega)
  rw [show i + (e - i) = e from by omega] at this
  simp (disch := first | assumption | omega) only [q_bl, q_baT, q_bi, q_ba, q_pr, q_ob, q_iT, q_iN, q_it, q_if, q_of, nI_add, pk_mul, pk_sub, nI_leI, nI_ltI, nI_eq, nI_clamp, nI_lt0, nI_eqm, m1_eq, true_or, or_true, not_false_eq_true, m1_lt, m1_nlt, m1_le, m1_nle, b01, b011, q_em, q_m1, n_0, n_1, n_2, n_3, n_4, n_5, n_6, n_7, n_8, n_9, n_10, n_11, n_12, n_14, n_15, n_16, n_20, n_24, n_25, n_32, n_36, n_40, n_41, n_42, n_43, n_45, n_46, n_48, n_57, n_59, n_60, n_73, n_76, n_97, n_99, n_100, n_106, n_109, n_120, n_122, n_136, n_160, n_176, n_200, n_255, n_800, n_1000, n_1001, n_1002, n_1003, n_1006, n_1012, n_1018, n_1019, n_1020, n_1100, n_1140, n_4800, n_4920, n_5940, n_6740, n_20220, F_J7_fill_fda19, F_J7_rangeCheck_23922, hk, this]
theorem l_fill2 {r e : Nat} {v : Int32} : ∀ (m n i : Nat) (μ : Mem), m < n → i + m = e → gK μ r = 101 → e ≤ gL μ r → gL μ r < 2 ^ 30 → L_J7_fill_53178_5 n r v (nI i) (nI e) μ = some (stF μ r i e v) := by
  intro m
  induction m with
  | zero =>
    intro n i μ hn he hk hl hb
    obtain ⟨n, rfl⟩ : ∃ k, n = k + 1 := ⟨n - 1, by omega⟩
    obtain rfl : i = e := by omega
    simp (disch := first | assumption | omega) only [q_bl, q_baT, q_bi, q_ba, q_pr, q_ob, q_iT, q_iN, q_it, q_if, q_of, nI_add, pk_mul, pk_sub, nI_leI, nI_ltI, nI_eq, nI_clamp, nI_lt0, nI_eqm, m1_eq, true_or, or_true, not_false_eq_true, m1_lt, m1_nlt, m1_le, m1_nle, b01, b011, q_em, q_m1, n_0, n_1, n_2, n_3, n_4, n_5, n_6, n_7, n_8, n_9, n_10, n_11, n_12, n_14, n_15, n_16, n_20, n_24, n_25, n_32, n_36, n_40, n_41, n_42, n_43, n_45, n_46, n_48, n_57, n_59, n_60, n_73, n_76, n_97, n_99, n_100, n_106, n_109, n_120, n_122, n_136, n_160, n_176, n_200, n_255, n_800, n_1000, n_1001, n_1002, n_1003, n_1006, n_1012, n_1018, n_1019, n_1020, n_1100, n_1140, n_4800, n_4920, n_5940, n_6740, n_20220, L_J7_fill_53178_5, B_J7_fill_53178_5, stF_0]
  | succ m ih =>
    intro n i μ hn he hk hl hb
    obtain ⟨n, rfl⟩ : ∃ k, n = k + 1 := ⟨n - 1, by omega⟩
    have := ih n (i + 1) (stI μ r i v) (by omega) (by omega) hk (by rw [q_lI]; omega) hb
    rw [stF_step _ _ _ _ _ (by omega)] at this
    simp (disch := first | assumption | omega) only [q_bl, q_baT, q_bi, q_ba, q_pr, q_ob, q_iT, q_iN, q_it, q_if, q_of, nI_add, pk_mul, pk_sub, nI_leI, nI_ltI, nI_eq, nI_clamp, nI_lt0, nI_eqm, m1_eq, true_or, or_true, not_false_eq_true, m1_lt, m1_nlt, m1_le, m1_nle, b01, b011, q_em, q_m1, n_0, n_1, n_2, n_3, n_4, n_5, n_6, n_7, n_8, n_9, n_10, n_11, n_12, n_14, n_15, n_16, n_20, n_24, n_25, n_32, n_36, n_40, n_41, n_42, n_43, n_45, n_46, n_48, n_57, n_59, n_60, n_73, n_76, n_97, n_99, n_100, n_106, n_109, n_120, n_122, n_136, n_160, n_176, n_200, n_255, n_800, n_1000, n_1001, n_1002, n_1003, n_1006, n_1012, n_1018, n_1019, n_1020, n_1100, n_1140, n_4800, n_4920, n_5940, n_6740, n_20220, L_J7_fill_53178_5, B_J7_fill_53178_5, hk, this]
theorem f_fill2 {r : Nat} {v : Int32} {μ : Mem} (hk : gK μ r = 101) (hb : gL μ r < 1000000) : F_J7_fill_53178 r v μ = some (stF μ r 0 (gL μ r) v) := by
  have := l_fill2 (v := v) (e := gL μ r) (gL μ r) FU 0 μ (FU_gt (by omega)) (by omega) hk (by omega) (by omega)
  simp (disch := first | assumption | omega) only [q_bl, q_baT, q_bi, q_ba, q_pr, q_ob, q_iT, q_iN, q_it, q_if, q_of, nI_add, pk_mul, pk_sub, nI_leI, nI_ltI, nI_eq, nI_clamp, nI_lt0, nI_eqm, m1_eq, true_or, or_true, not_false_eq_true, m1_lt, m1_nlt, m1_le, m1_nle, b01, b011, q_em, q_m1, n_0, n_1, n_2, n_3, n_4, n_5, n_6, n_7, n_8, n_9, n_10, n_11, n_12, n_14, n_15, n_16, n_20, n_24, n_25, n_32, n_36, n_40, n_41, n_42, n_43, n_45, n_46, n_48, n_57, n_59, n_60, n_73, n_76, n_97, n_99, n_100, n_106, n_109, n_120, n_122, n_136, n_160, n_176, n_200, n_255, n_800, n_1000, n_1001, n_1002, n_1003, n_1006, n_1012, n_1018, n_1019, n_1020, n_1100, n_1140, n_4800, n_4920, n_5940, n_6740, n_20220, F_J7_fill_53178, hk, this]

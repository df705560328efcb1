/-! FLOATS: what counts of a number is its datum; NaNs are all alike -/
theorem q_dl {α : Type} (a : α) (f : α → Prop) : dl a f = f a := of_eq_true (eq_true rfl)
theorem q_da {c k : Prop} (h : c) : da c k = k := propext ⟨fun e => e.2, fun e => ⟨h, e⟩⟩
theorem q_daT {k : Prop} : da True k = k := q_da trivial
theorem q_db {α : Type} (q : α) (f : α → Prop) : db (some q) f = f q := propext ⟨fun ⟨_, e, h⟩ => by cases e; exact h, fun h => ⟨q, rfl, h⟩⟩
theorem q_dp {α : Type} (f : α → Mem → Prop) (a : α) (μ : Mem) : dp f (a, μ) = f a μ := of_eq_true (eq_true rfl)
theorem q_dpL {α : Type} (f : Nat → Mem → Prop) (g : α → Mem → Prop) (k : Nat) (μ : Mem) : dps f g (.inl k, μ) = f k μ := of_eq_true (eq_true rfl)
theorem q_dpR {α : Type} (f : Nat → Mem → Prop) (g : α → Mem → Prop) (k : α) (μ : Mem) : dps f g (.inr k, μ) = g k μ := of_eq_true (eq_true rfl)
theorem q_ddr {α : Type} (p f : α → Prop) : ddr p f = ∀ x, p x → f x := of_eq_true (eq_true rfl)
theorem dzr_v {α : Type} {mk : α → Value} {f : Nat → Mem → Prop} {g : α → Mem → Prop} {v : α} {μ : Mem} (h : g v μ) : dzr mk f g (.inl (some (mk v))) μ := Or.inr ⟨v, rfl, h⟩
theorem dzr_x {α : Type} {mk : α → Value} {f : Nat → Mem → Prop} {g : α → Mem → Prop} {k : Nat} {μ : Mem} (h : f k μ) : dzr mk f g (.inr k) μ := Or.inl ⟨k, rfl, h⟩
def DF (a : UInt32) : FP.Core.Datum := FP.Core.decode FP.Core.b32 a.toNat
def DD (a : UInt64) : FP.Core.Datum := FP.Core.decode FP.Core.b64 a.toNat
theorem DF_nan {a : UInt32} (h : isNaN32 a = true) : DF a = .nan := by
  rw [isNaN32_iff, show (2147483647 : Nat) = 2 ^ 31 - 1 from rfl, Nat.and_two_pow_sub_one_eq_mod] at h
  unfold DF FP.Core.decode
  generalize a.toNat = n at *
  have e1 : FP.Core.fieldE FP.Core.b32 n = FP.Core.b32.exps - 1 := by
    show n / 8388608 % 256 = 255
    omega
  have e2 : ¬ FP.Core.fieldT FP.Core.b32 n = 0 := by
    show ¬ n % 8388608 = 0
    omega
  rw [if_pos e1, if_neg e2]
theorem DD_nan {a : UInt64} (h : isNaN64 a = true) : DD a = .nan := by
  rw [isNaN64_iff, show (9223372036854775807 : Nat) = 2 ^ 63 - 1 from rfl, Nat.and_two_pow_sub_one_eq_mod] at h
  unfold DD FP.Core.decode
  generalize a.toNat = n at *
  have e1 : FP.Core.fieldE FP.Core.b64 n = FP.Core.b64.exps - 1 := by
    show n / 4503599627370496 % 2048 = 2047
    omega
  have e2 : ¬ FP.Core.fieldT FP.Core.b64 n = 0 := by
    show ¬ n % 4503599627370496 = 0
    omega
  rw [if_pos e1, if_neg e2]
theorem al32 {a b : UInt32} (h : alike32 a b = true) : DF a = DF b := by
  simp only [alike32, Bool.or_eq_true, decide_eq_true_eq, Bool.and_eq_true] at h
  rcases h with rfl | ⟨h1, h2⟩
  · rfl
  · rw [DF_nan h1, DF_nan h2]
theorem al64 {a b : UInt64} (h : alike64 a b = true) : DD a = DD b := by
  simp only [alike64, Bool.or_eq_true, decide_eq_true_eq, Bool.and_eq_true] at h
  rcases h with rfl | ⟨h1, h2⟩
  · rfl
  · rw [DD_nan h1, DD_nan h2]
theorem fadd_c {a b a' b' : UInt32} (h1 : DF a = DF a') (h2 : DF b = DF b') : FP.fadd a b = FP.fadd a' b' := by
  unfold DF at h1 h2
  unfold FP.fadd FP.Core.fadd FP.Core.add
  rw [h1, h2]
theorem fsub_c {a b a' b' : UInt32} (h1 : DF a = DF a') (h2 : DF b = DF b') : FP.fsub a b = FP.fsub a' b' := by
  unfold DF at h1 h2
  unfold FP.fsub FP.Core.fsub FP.Core.sub
  rw [h1, h2]
theorem fmul_c {a b a' b' : UInt32} (h1 : DF a = DF a') (h2 : DF b = DF b') : FP.fmul a b = FP.fmul a' b' := by
  unfold DF at h1 h2
  unfold FP.fmul FP.Core.fmul FP.Core.mul
  rw [h1, h2]
theorem fcmp_c {a b a' b' : UInt32} (h1 : DF a = DF a') (h2 : DF b = DF b') : FP.fcmp a b = FP.fcmp a' b' := by
  unfold DF at h1 h2
  unfold FP.fcmp FP.Core.fcmp FP.Core.cmp
  rw [h1, h2]
theorem dcmp_e {a b : UInt64} : FP.dcmp a b = FP.Core.order (DD a) (DD b) := rfl
theorem fcmp_e {a b : UInt32} : FP.fcmp a b = FP.Core.order (DF a) (DF b) := rfl
theorem order_nan : FP.Core.order .nan .nan = none := rfl
theorem order_same {d : FP.Core.Datum} (h : ¬ d = .nan) : FP.Core.order d d = some .eq := by
  cases d with
  | nan => exact absurd rfl h
  | inf s => cases s <;> rfl
  | fin s c q => simp [FP.Core.order, compare, compareOfLessAndEq]
theorem f2d_nan {a : UInt32} (h : DF a = .nan) : DD (FP.f2d a) = .nan := by
  unfold DF at h
  unfold FP.f2d FP.Core.fIsNaN FP.Core.isNaN
  rw [h, if_pos (by decide)]
  exact DD_nan (isNaN64_or_left (isNaN64_or_right (by decide +kernel)))
/-- a datum other than NaN, as rounding to a double leaves it -/
theorem enc_num {d : FP.Core.Datum} (h : (∃ s, d = .inf s) ∨ ∃ s c q, d = .fin s c q ∧ c < 9007199254740992 ∧ q ≤ 971) : ¬ DD (UInt64.ofNat (FP.Core.encode FP.Core.b64 d)) = .nan := by
  have key : ∀ n s e t : Nat, s ≤ 1 → e ≤ 2047 → t < 4503599627370496 → (e = 2047 → t = 0) → n = (s * 2048 + e) * 4503599627370496 + t → ¬ DD (UInt64.ofNat n) = .nan := by
    intro n s e t hs he ht hz hn
    unfold DD FP.Core.decode
    rw [UInt64.toNat_ofNat', Nat.mod_eq_of_lt (by omega)]
    have e1 : FP.Core.fieldE FP.Core.b64 n = n / 4503599627370496 % 2048 := rfl
    have e2 : FP.Core.fieldT FP.Core.b64 n = n % 4503599627370496 := rfl
    have e3 : FP.Core.b64.exps - 1 = 2047 := rfl
    rw [e1, e2, e3]
    by_cases h1 : e = 2047
    · rw [if_pos (by omega), if_pos (by omega)]; simp
    · rw [if_neg (by omega)]
      split <;> simp
  rcases h with ⟨s, rfl⟩ | ⟨s, c, q, rfl, hc, hq⟩
  · exact key _ s.toNat 2047 0 (by cases s <;> decide) (by decide) (by decide) (fun _ => rfl) rfl
  · show ¬ DD (UInt64.ofNat (if c < FP.Core.b64.tails then FP.Core.assemble FP.Core.b64 s 0 c else FP.Core.assemble FP.Core.b64 s ((q - FP.Core.b64.qmin).toNat + 1) (c - FP.Core.b64.tails))) = .nan
    by_cases h1 : c < FP.Core.b64.tails
    · rw [if_pos h1]
      exact key _ s.toNat 0 c (by cases s <;> decide) (by decide) h1 (fun e => by omega) rfl
    · rw [if_neg h1]
      have h1' : ¬ c < 4503599627370496 := h1
      have hm : (q - FP.Core.b64.qmin).toNat + 1 ≤ 2046 := by
        have : FP.Core.b64.qmin = -1074 := by decide +kernel
        rw [this]; omega
      exact key _ s.toNat _ _ (by cases s <;> decide) (by omega) (by show c - 4503599627370496 < 4503599627370496; omega) (fun e => by omega) rfl
theorem round_num {d : FP.Core.Datum} (h : ¬ d = .nan) : (∃ s, FP.Core.round FP.Core.b64 d = .inf s) ∨ ∃ s c q, FP.Core.round FP.Core.b64 d = .fin s c q ∧ c < 9007199254740992 ∧ q ≤ 971 := by
  have hb : ∀ s c q, c < 9007199254740992 → (∃ s', FP.Core.bound FP.Core.b64 s c q = .inf s') ∨ ∃ s' c' q', FP.Core.bound FP.Core.b64 s c q = .fin s' c' q' ∧ c' < 9007199254740992 ∧ q' ≤ 971 := by
    intro s c q hc
    unfold FP.Core.bound
    by_cases h1 : q ≤ FP.Core.b64.qmax
    · rw [if_pos h1]
      exact Or.inr ⟨s, c, q, rfl, hc, by have : FP.Core.b64.qmax = 971 := by decide +kernel
                                         omega⟩
    · rw [if_neg h1]; exact Or.inl ⟨s, rfl⟩
  cases d with
  | nan => exact absurd rfl h
  | inf s => exact Or.inl ⟨s, rfl⟩
  | fin s c q =>
    show (∃ s', FP.Core.roundRatio FP.Core.b64 s c 1 q = .inf s') ∨ ∃ s' c' q', FP.Core.roundRatio FP.Core.b64 s c 1 q = .fin s' c' q' ∧ c' < 9007199254740992 ∧ q' ≤ 971
    unfold FP.Core.roundRatio
    by_cases h0 : c = 0
    · rw [if_pos h0]
      exact Or.inr ⟨s, 0, _, rfl, by decide, by decide +kernel⟩
    · rw [if_neg h0]
      unfold FP.Core.roundAt FP.Core.settle
      split
      · next h9 => exact hb _ _ _ h9
      · exact hb _ _ _ (by decide)
theorem f2d_num {a : UInt32} (h : ¬ DF a = .nan) : ¬ DD (FP.f2d a) = .nan := by
  have h' := h
  unfold DF at h
  unfold FP.f2d FP.Core.fIsNaN FP.Core.isNaN
  rw [if_neg (by simpa using h)]
  exact enc_num (round_num h)
theorem f2d_c {a b : UInt32} (h : DF a = DF b) : DD (FP.f2d a) = DD (FP.f2d b) := by
  by_cases h1 : DF a = .nan
  · rw [f2d_nan h1, f2d_nan (h ▸ h1)]
  · have h2 : ¬ DF b = .nan := h ▸ h1
    unfold DF at h h1 h2
    unfold FP.f2d FP.Core.fIsNaN FP.Core.isNaN
    rw [if_neg (by simpa using h1), if_neg (by simpa using h2)]
    unfold FP.Core.f2d FP.Core.convert
    rw [h]

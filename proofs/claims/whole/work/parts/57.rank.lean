/-! LAYER 3: the order of the cards -/
def ctp (p : Nat → Bool) : Nat → Nat
  | 0 => 0
  | n + 1 => ctp p n + (if p n = true then 1 else 0)
theorem ctp_le {p : Nat → Bool} : ∀ n, ctp p n ≤ n := by
  intro n
  induction n with
  | zero => exact Nat.le_refl _
  | succ n ih => show ctp p n + _ ≤ _; split <;> omega
theorem ctp_mono {p q : Nat → Bool} : ∀ n, (∀ k, k < n → p k = true → q k = true) → ctp p n ≤ ctp q n := by
  intro n
  induction n with
  | zero => intro _; exact Nat.le_refl _
  | succ n ih =>
    intro h
    have h1 := ih (fun k hk => h k (by omega))
    have h2 := h n (by omega)
    show ctp p n + _ ≤ ctp q n + _
    by_cases hp : p n = true
    · rw [if_pos hp, if_pos (h2 hp)]; omega
    · rw [if_neg hp]; omega
theorem ctp_lt {p q : Nat → Bool} {k0 : Nat} (h0 : ¬ p k0 = true) (h1 : q k0 = true) : ∀ n, k0 < n → (∀ k, k < n → p k = true → q k = true) → ctp p n < ctp q n := by
  intro n
  induction n with
  | zero => intro h; omega
  | succ n ih =>
    intro hk h
    show ctp p n + _ < ctp q n + _
    by_cases hn : k0 = n
    · subst hn
      have := ctp_mono k0 (fun k hk => h k (by omega))
      rw [if_neg h0, if_pos h1]; omega
    · have h3 := ih (by omega) (fun k hk => h k (by omega))
      have h2 := h n (by omega)
      by_cases hp : p n = true
      · rw [if_pos hp, if_pos (h2 hp)]; omega
      · rw [if_neg hp]; omega
theorem ctp_all : ∀ n, ctp (fun _ => true) n = n := by
  intro n
  induction n with
  | zero => rfl
  | succ n ih => show ctp _ n + _ = _; rw [ih, if_pos rfl]
/-- a row of different places is a whole row -/
theorem pgh : ∀ (n : Nat) (f : Nat → Nat), (∀ i, i < n → f i < n) → (∀ i j, i < n → j < n → f i = f j → i = j) → ∀ y, y < n → ∃ i, i < n ∧ f i = y := by
  intro n
  induction n with
  | zero => intro f _ _ y hy; omega
  | succ n ih =>
    intro f h1 h2 y hy
    by_cases e : f n = y
    · exact ⟨n, by omega, e⟩
    · have hn := h1 n (by omega)
      have g1 : ∀ i, i < n → (if f i = n then f n else f i) < n := fun i hi => by
        have a := h1 i (by omega)
        by_cases c : f i = n
        · rw [if_pos c]
          have : ¬ f n = n := fun c2 => by have := h2 i n (by omega) (by omega) (by omega); omega
          omega
        · rw [if_neg c]; omega
      have g2 : ∀ i j, i < n → j < n → (if f i = n then f n else f i) = (if f j = n then f n else f j) → i = j := fun i j hi hj hq => by
        by_cases c : f i = n
        · by_cases d : f j = n
          · exact h2 i j (by omega) (by omega) (by omega)
          · rw [if_pos c, if_neg d] at hq
            have := h2 n j (by omega) (by omega) hq; omega
        · by_cases d : f j = n
          · rw [if_neg c, if_pos d] at hq
            have := h2 i n (by omega) (by omega) hq; omega
          · rw [if_neg c, if_neg d] at hq
            exact h2 i j (by omega) (by omega) hq
      by_cases hyn : y = n
      · subst hyn
        obtain ⟨i, hi, q⟩ := ih _ g1 g2 (f y) (by omega)
        by_cases c : f i = y
        · exact ⟨i, by omega, c⟩
        · rw [if_neg c] at q
          have := h2 i y (by omega) (by omega) q; omega
      · obtain ⟨i, hi, q⟩ := ih _ g1 g2 y (by omega)
        by_cases c : f i = n
        · rw [if_pos c] at q; exact absurd q e
        · rw [if_neg c] at q; exact ⟨i, by omega, q⟩
/-- card j goes before card i -/
def bfr (A : SA) (f i j : Nat) : Bool := decide (sp_val A j f < sp_val A i f ∨ (sp_val A j f = sp_val A i f ∧ j < i))
def rnk (A : SA) (f n i : Nat) : Nat := ctp (bfr A f i) n
theorem rnk_lt {A : SA} {f n i : Nat} (hi : i < n) : rnk A f n i < n := by
  have := ctp_lt (p := bfr A f i) (q := fun _ => true) (k0 := i) (by unfold bfr; rw [decide_eq_true_eq]; omega) rfl n hi (fun _ _ _ => rfl)
  rw [ctp_all] at this; exact this
theorem rnk_ord {A : SA} {f n i j : Nat} (hj : j < n) (h : bfr A f i j = true) : rnk A f n j < rnk A f n i := by
  refine ctp_lt (k0 := j) (by unfold bfr; rw [decide_eq_true_eq]; omega) h n hj (fun k hk hp => ?_)
  unfold bfr at h hp ⊢
  rw [decide_eq_true_eq] at h hp ⊢
  omega
theorem rnk_inj {A : SA} {f n i j : Nat} (hi : i < n) (hj : j < n) (h : rnk A f n i = rnk A f n j) : i = j := by
  by_cases e : i = j
  · exact e
  · exfalso
    by_cases b : bfr A f i j = true
    · have := rnk_ord hj b; omega
    · have b2 : bfr A f j i = true := by
        unfold bfr at b ⊢
        rw [decide_eq_true_eq] at b ⊢
        omega
      have := rnk_ord hi b2; omega
/-- which card comes to a place -/
noncomputable def odr (A : SA) (f n y : Nat) : Nat := @dite _ (∃ i, i < n ∧ rnk A f n i = y) (Classical.propDecidable _) (fun h => Classical.choose h) (fun _ => 0)
theorem odr_sp {A : SA} {f n y : Nat} (hy : y < n) : odr A f n y < n ∧ rnk A f n (odr A f n y) = y := by
  have h := pgh n (rnk A f n) (fun i hi => rnk_lt hi) (fun i j hi hj => rnk_inj hi hj) y hy
  unfold odr
  rw [dif_pos h]
  exact Classical.choose_spec h
theorem odr_rnk {A : SA} {f n i : Nat} (hi : i < n) : odr A f n (rnk A f n i) = i := by
  have h := odr_sp (A := A) (f := f) (rnk_lt (A := A) (f := f) hi)
  exact rnk_inj h.1 hi h.2
/-- the sorted deck, its first t columns -/
noncomputable def swk (A : SA) (f n t : Nat) : SA := fun j => if 200 ≤ j ∧ j < 200 + t then A (200 + 20 * odr A f n ((j - 200) / 20) + (j - 200) % 20) else A j
theorem swk_0 {A : SA} {f n : Nat} : swk A f n 0 = A := by funext i; unfold swk; rw [if_neg (by omega)]
theorem swk_o {A : SA} {f n t i : Nat} (h : ¬ (200 ≤ i ∧ i < 200 + t)) : swk A f n t i = A i := by unfold swk; rw [if_neg h]
theorem swk_s {A : SA} {f n y c : Nat} (hc : c < 20) : ua (swk A f n (20 * y + c)) (200 + 20 * y + c) (A (200 + 20 * odr A f n y + c)) = swk A f n (20 * y + (c + 1)) := by
  funext i
  by_cases hi : i = 200 + 20 * y + c
  · subst hi
    rw [ua_s]; unfold swk
    rw [if_pos (by omega), show (200 + 20 * y + c - 200) / 20 = y from by omega, show (200 + 20 * y + c - 200) % 20 = c from by omega]
  · rw [ua_n hi]; unfold swk
    by_cases h2 : 200 ≤ i ∧ i < 200 + (20 * y + c)
    · rw [if_pos h2, if_pos (by omega)]
    · rw [if_neg h2, if_neg (by omega)]
theorem swk_i {A : SA} {f n y k : Nat} (hy : y < n) (k1 : 1 ≤ k) (k2 : k ≤ 20) : swk A f n (20 * n) (200 + 20 * y + k - 1) = A (200 + 20 * odr A f n y + k - 1) := by
  unfold swk
  rw [if_pos (by omega), show (200 + 20 * y + k - 1 - 200) / 20 = y from by omega, show (200 + 20 * y + k - 1 - 200) % 20 = k - 1 from by omega]
  congr 1; omega
theorem swk_lc {A : SA} {f n : Nat} (h : lcn A n) : lcn (swk A f n (20 * n)) n := fun i k hi k1 k2 => by
  rw [swk_i hi k1 k2]; exact h _ k (odr_sp hi).1 k1 k2
/-- cards that move -/
def mvd (A : SA) (f n : Nat) (i : Nat) : Nat := ctp (fun j => decide (¬ rnk A f n j = j)) i
theorem mvd_s {A : SA} {f n i : Nat} (h : ¬ rnk A f n i = i) : mvd A f n (i + 1) = mvd A f n i + 1 := by
  show ctp _ i + _ = _; rw [if_pos (decide_eq_true h)]; rfl
theorem mvd_t {A : SA} {f n i : Nat} (h : rnk A f n i = i) : mvd A f n (i + 1) = mvd A f n i := by
  show ctp _ i + _ = _; rw [if_neg (by rw [decide_eq_true_eq]; exact fun e => e h)]; rfl

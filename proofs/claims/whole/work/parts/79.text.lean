/-! LAYER 3: texts, in pure words -/
def isB (c : Nat) : Bool := decide (c = 32 ∨ c = 10)
def isLt (c : Nat) : Bool := decide (97 ≤ c ∧ c ≤ 122)
def isDg (c : Nat) : Bool := decide (48 ≤ c ∧ c ≤ 57)
def isCs (c : Nat) : Bool := decide ((48 ≤ c ∧ c ≤ 57) ∨ (97 ≤ c ∧ c ≤ 106) ∨ c = 120 ∨ c = 46)
theorem isB_T {c : Nat} : (isB c = true) = (c = 32 ∨ c = 10) := by unfold isB; rw [decide_eq_true_eq]
theorem isLt_T {c : Nat} : (isLt c = true) = (97 ≤ c ∧ c ≤ 122) := by unfold isLt; rw [decide_eq_true_eq]
theorem isDg_T {c : Nat} : (isDg c = true) = (48 ≤ c ∧ c ≤ 57) := by unfold isDg; rw [decide_eq_true_eq]
theorem isCs_T {c : Nat} : (isCs c = true) = ((48 ≤ c ∧ c ≤ 57) ∨ (97 ≤ c ∧ c ≤ 106) ∨ c = 120 ∨ c = 46) := by unfold isCs; rw [decide_eq_true_eq]
/-- the end of a run -/
def rn (P : Nat → Bool) (b : Nat → Nat) : Nat → Nat → Nat
  | 0, p => p
  | m + 1, p => if P (b p) = true then rn P b m (p + 1) else p
theorem rn_ge {P : Nat → Bool} {b : Nat → Nat} : ∀ (m p : Nat), p ≤ rn P b m p := by
  intro m
  induction m with
  | zero => intro p; exact Nat.le_refl _
  | succ m ih =>
    intro p
    unfold rn
    by_cases h : P (b p) = true
    · rw [if_pos h]; have := ih (p + 1); omega
    · rw [if_neg h]; exact Nat.le_refl _
theorem rn_le {P : Nat → Bool} {b : Nat → Nat} : ∀ (m p : Nat), rn P b m p ≤ p + m := by
  intro m
  induction m with
  | zero => intro p; exact Nat.le_refl _
  | succ m ih =>
    intro p
    unfold rn
    by_cases h : P (b p) = true
    · rw [if_pos h]; have := ih (p + 1); omega
    · rw [if_neg h]; omega
theorem rn_in {P : Nat → Bool} {b : Nat → Nat} : ∀ (m p k : Nat), p ≤ k → k < rn P b m p → P (b k) = true := by
  intro m
  induction m with
  | zero => intro p k h1 h2; have : rn P b 0 p = p := rfl; omega
  | succ m ih =>
    intro p k h1 h2
    unfold rn at h2
    by_cases h : P (b p) = true
    · rw [if_pos h] at h2
      by_cases hk : k = p
      · subst hk; exact h
      · exact ih (p + 1) k (by omega) h2
    · rw [if_neg h] at h2; omega
theorem rn_end {P : Nat → Bool} {b : Nat → Nat} : ∀ (m p : Nat), ¬ P (b (p + m)) = true → ¬ P (b (rn P b m p)) = true := by
  intro m
  induction m with
  | zero => intro p h; exact h
  | succ m ih =>
    intro p h
    unfold rn
    by_cases hp : P (b p) = true
    · rw [if_pos hp]; exact ih (p + 1) (by rw [show p + 1 + m = p + (m + 1) from by omega]; exact h)
    · rw [if_neg hp]; exact hp
theorem rn_s {P : Nat → Bool} {b : Nat → Nat} {m p : Nat} (h : P (b p) = true) : rn P b (m + 1) p = rn P b m (p + 1) := if_pos h
theorem rn_n {P : Nat → Bool} {b : Nat → Nat} {m p : Nat} (h : ¬ P (b p) = true) : rn P b m p = p := by
  cases m with
  | zero => rfl
  | succ m => exact if_neg h
/-- a text of n signs -/
def TX (b : Nat → Nat) (n : Nat) : Prop := n ≤ 1100 ∧ (∀ k, k < n → b k < 256) ∧ ∀ k, n ≤ k → b k = 256
theorem TX.end {b : Nat → Nat} {n k : Nat} (h : TX b n) : (b k = 256) = ¬ k < n := propext ⟨fun e hk => by have := h.2.1 k hk; omega, fun e => h.2.2 k (by omega)⟩
theorem TX.B {b : Nat → Nat} {n p : Nat} (h : TX b n) (hp : p ≤ n) : ¬ isB (b (rn isB b (n - p) p)) = true := rn_end _ _ (by rw [show p + (n - p) = n from by omega, h.2.2 n (Nat.le_refl _)]; decide)
theorem TX.L {b : Nat → Nat} {n p : Nat} (h : TX b n) (hp : p ≤ n) : ¬ isLt (b (rn isLt b (n - p) p)) = true := rn_end _ _ (by rw [show p + (n - p) = n from by omega, h.2.2 n (Nat.le_refl _)]; decide)
theorem TX.D {b : Nat → Nat} {n p : Nat} (h : TX b n) (hp : p ≤ n) : ¬ isDg (b (rn isDg b (n - p) p)) = true := rn_end _ _ (by rw [show p + (n - p) = n from by omega, h.2.2 n (Nat.le_refl _)]; decide)
theorem TX.C {b : Nat → Nat} {n p : Nat} (h : TX b n) (hp : p ≤ n) : ¬ isCs (b (rn isCs b (n - p) p)) = true := rn_end _ _ (by rw [show p + (n - p) = n from by omega, h.2.2 n (Nat.le_refl _)]; decide)
/-- letters, the last one first; values of numbers -/
def wl (b : Nat → Nat) (s : Nat) : Nat → List Nat
  | 0 => []
  | k + 1 => b (s + k) :: wl b s k
def nv (b : Nat → Nat) (s : Nat) : Nat → Nat
  | 0 => 0
  | k + 1 => nv b s k * 10 + (b (s + k) - 48)
theorem wl_len {b : Nat → Nat} {s : Nat} : ∀ k, (wl b s k).length = k := by
  intro k
  induction k with
  | zero => rfl
  | succ k ih => show (wl b s k).length + 1 = _; rw [ih]
theorem wl_eq {b c : Nat → Nat} {s t : Nat} : ∀ k, (wl b s k = wl c t k) = ∀ j, j < k → b (s + j) = c (t + j) := by
  intro k
  induction k with
  | zero => exact propext ⟨fun _ j hj => absurd hj (by omega), fun _ => rfl⟩
  | succ k ih =>
    refine propext ⟨fun h j hj => ?_, fun h => ?_⟩
    · have h1 := List.cons.inj (show b (s + k) :: wl b s k = c (t + k) :: wl c t k from h)
      by_cases hk : j = k
      · subst hk; exact h1.1
      · exact (ih ▸ h1.2) j (by omega)
    · show b (s + k) :: wl b s k = c (t + k) :: wl c t k
      rw [h k (by omega), ih.mpr (fun j hj => h j (by omega))]
theorem wl_ne {b c : Nat → Nat} {s t k l : Nat} (h : ¬ k = l) : ¬ wl b s k = wl c t l := fun e => h (by rw [← wl_len (b := b) (s := s) k, e, wl_len])
/-- the two packings of a word -/
def kk : List Nat → Nat
  | [] => 0
  | c :: w => kk w * 256 + c
def nn : List Nat → Nat
  | [] => 0
  | c :: w => nn w * 27 + (c - 96)
def lw (w : List Nat) : Prop := (∀ c, c ∈ w → 97 ≤ c ∧ c ≤ 122) ∧ w.length ≤ 8
theorem lw_t {c : Nat} {w : List Nat} (h : lw (c :: w)) : lw w := ⟨fun x hx => h.1 x (List.mem_cons_of_mem _ hx), by have := h.2; simp only [List.length_cons] at this; omega⟩
theorem lw_h {c : Nat} {w : List Nat} (h : lw (c :: w)) : 97 ≤ c ∧ c ≤ 122 := h.1 c List.mem_cons_self
theorem kk_inj : ∀ (w v : List Nat), (∀ c, c ∈ w → 97 ≤ c ∧ c ≤ 122) → (∀ c, c ∈ v → 97 ≤ c ∧ c ≤ 122) → kk w = kk v → w = v := by
  intro w
  induction w with
  | nil =>
    intro v hw hv h
    cases v with
    | nil => rfl
    | cons c v => have := hv c List.mem_cons_self; have h2 : 0 = kk v * 256 + c := h; omega
  | cons a w ih =>
    intro v hw hv h
    have ha := hw a List.mem_cons_self
    cases v with
    | nil => have h2 : kk w * 256 + a = 0 := h; omega
    | cons c v =>
      have hc := hv c List.mem_cons_self
      have h2 : kk w * 256 + a = kk v * 256 + c := h
      rw [show a = c from by omega, ih v (fun x hx => hw x (List.mem_cons_of_mem _ hx)) (fun x hx => hv x (List.mem_cons_of_mem _ hx)) (by omega)]
theorem nn_inj : ∀ (w v : List Nat), (∀ c, c ∈ w → 97 ≤ c ∧ c ≤ 122) → (∀ c, c ∈ v → 97 ≤ c ∧ c ≤ 122) → nn w = nn v → w = v := by
  intro w
  induction w with
  | nil =>
    intro v hw hv h
    cases v with
    | nil => rfl
    | cons c v => have := hv c List.mem_cons_self; have h2 : 0 = nn v * 27 + (c - 96) := h; omega
  | cons a w ih =>
    intro v hw hv h
    have ha := hw a List.mem_cons_self
    cases v with
    | nil => have h2 : nn w * 27 + (a - 96) = 0 := h; omega
    | cons c v =>
      have hc := hv c List.mem_cons_self
      have h2 : nn w * 27 + (a - 96) = nn v * 27 + (c - 96) := h
      rw [show a = c from by omega, ih v (fun x hx => hw x (List.mem_cons_of_mem _ hx)) (fun x hx => hv x (List.mem_cons_of_mem _ hx)) (by omega)]
theorem pow_up {a k l : Nat} (ha : 0 < a) (h : k ≤ l) : a ^ k ≤ a ^ l := Nat.pow_le_pow_right ha h
theorem kk_lt : ∀ (w : List Nat), (∀ c, c ∈ w → 97 ≤ c ∧ c ≤ 122) → kk w < 2 ^ (8 * w.length) ∧ (1 ≤ w.length → kk w < 2 ^ (8 * w.length - 1)) := by
  intro w
  induction w with
  | nil => intro h; exact ⟨by decide, fun h => absurd h (by decide)⟩
  | cons a w ih =>
    intro h
    have ha := h a List.mem_cons_self
    obtain ⟨i1, i2⟩ := ih (fun x hx => h x (List.mem_cons_of_mem _ hx))
    have e : kk (a :: w) = kk w * 256 + a := rfl
    rw [e, List.length_cons]
    refine ⟨?_, fun _ => ?_⟩
    · rw [show 8 * (w.length + 1) = 8 * w.length + 8 from by omega, Nat.pow_add]; omega
    · cases w with
      | nil => show 0 * 256 + a < 2 ^ (8 * 1 - 1); omega
      | cons b t =>
        have := i2 (by simp)
        rw [show 8 * ((b :: t).length + 1) - 1 = (8 * (b :: t).length - 1) + 8 from by simp only [List.length_cons]; omega, Nat.pow_add]; omega
theorem kk_63 {w : List Nat} (h : lw w) : kk w < 2 ^ 63 := by
  obtain ⟨h1, h2⟩ := kk_lt w h.1
  have hl := h.2
  by_cases h0 : 1 ≤ w.length
  · exact Nat.lt_of_lt_of_le (h2 h0) (pow_up (by decide) (by omega))
  · exact Nat.lt_of_lt_of_le h1 (pow_up (by decide) (by omega))
theorem nn_lt : ∀ (w : List Nat), (∀ c, c ∈ w → 97 ≤ c ∧ c ≤ 122) → nn w < 27 ^ w.length := by
  intro w
  induction w with
  | nil => intro h; decide
  | cons a w ih =>
    intro h
    have ha := h a List.mem_cons_self
    have i1 := ih (fun x hx => h x (List.mem_cons_of_mem _ hx))
    have e : nn (a :: w) = nn w * 27 + (a - 96) := rfl
    rw [e, List.length_cons, Nat.pow_succ]; omega
theorem nn_63 {w : List Nat} (h : lw w) : nn w < 2 ^ 63 := by
  have h1 := nn_lt w h.1
  exact Nat.lt_of_lt_of_le h1 (Nat.le_trans (pow_up (by decide) h.2) (by decide))
theorem lN_63 {n : Nat} (h : n < 2 ^ 63) : (lN n).toInt = (n : Int) := lg_ofNat_toInt h
theorem lN_inj {a b : Nat} (ha : a < 2 ^ 63) (hb : b < 2 ^ 63) (h : lN a = lN b) : a = b := by
  have h1 := congrArg Int64.toInt h
  rw [lN_63 ha, lN_63 hb] at h1
  omega
theorem kL_inj {w v : List Nat} (hw : lw w) (hv : lw v) : (lN (kk w) = lN (kk v)) = (w = v) := propext ⟨fun h => kk_inj w v hw.1 hv.1 (lN_inj (kk_63 hw) (kk_63 hv) h), fun h => by rw [h]⟩
theorem nL_inj {w v : List Nat} (hw : lw w) (hv : lw v) : (lN (nn w) = lN (nn v)) = (w = v) := propext ⟨fun h => nn_inj w v hw.1 hv.1 (lN_inj (nn_63 hw) (nn_63 hv) h), fun h => by rw [h]⟩
/-- tokens: start, kind (0 the end, 1 a word, 2 a number, 3 a semicolon, 4 illegal), end, value, letters -/
def ts (b : Nat → Nat) (n p : Nat) : Nat := rn isB b (n - p) p
def te (b : Nat → Nat) (n p : Nat) : Nat :=
  if n ≤ ts b n p then ts b n p else if isLt (b (ts b n p)) = true then rn isLt b (n - ts b n p) (ts b n p) else if isDg (b (ts b n p)) = true then rn isDg b (n - ts b n p) (ts b n p) else ts b n p + 1
def tk (b : Nat → Nat) (n p : Nat) : Nat :=
  if n ≤ ts b n p then 0 else if isLt (b (ts b n p)) = true then (if te b n p - ts b n p ≤ 8 then 1 else 4) else if isDg (b (ts b n p)) = true then (if te b n p - ts b n p ≤ 2 then 2 else 4) else if b (ts b n p) = 59 then 3 else 4
def tv (b : Nat → Nat) (n p : Nat) : Nat := nv b (ts b n p) (te b n p - ts b n p)
def tw (b : Nat → Nat) (n p : Nat) : List Nat := wl b (ts b n p) (te b n p - ts b n p)
section TOK
variable {b : Nat → Nat} {n p : Nat}
theorem ts_ge : p ≤ ts b n p := rn_ge _ _
theorem ts_le (hp : p ≤ n) : ts b n p ≤ n := by have := rn_le (P := isB) (b := b) (n - p) p; unfold ts; omega
theorem te_le (hp : p ≤ n) : te b n p ≤ n := by
  have h := ts_le (b := b) hp
  unfold te
  by_cases h1 : n ≤ ts b n p
  · rw [if_pos h1]; exact h
  · rw [if_neg h1]
    by_cases h2 : isLt (b (ts b n p)) = true
    · rw [if_pos h2]; have := rn_le (P := isLt) (b := b) (n - ts b n p) (ts b n p); omega
    · rw [if_neg h2]
      by_cases h3 : isDg (b (ts b n p)) = true
      · rw [if_pos h3]; have := rn_le (P := isDg) (b := b) (n - ts b n p) (ts b n p); omega
      · rw [if_neg h3]; omega
theorem te_gt (h1 : ts b n p < n) : ts b n p < te b n p := by
  unfold te
  rw [if_neg (by omega)]
  obtain ⟨k, hk⟩ : ∃ k, n - ts b n p = k + 1 := ⟨n - ts b n p - 1, by omega⟩
  by_cases h2 : isLt (b (ts b n p)) = true
  · rw [if_pos h2, hk, rn_s h2]; exact rn_ge (P := isLt) (b := b) k (ts b n p + 1)
  · rw [if_neg h2]
    by_cases h3 : isDg (b (ts b n p)) = true
    · rw [if_pos h3, hk, rn_s h3]; exact rn_ge (P := isDg) (b := b) k (ts b n p + 1)
    · rw [if_neg h3]; omega
theorem te_ge : ts b n p ≤ te b n p := by
  by_cases h : ts b n p < n
  · exact Nat.le_of_lt (te_gt h)
  · unfold te; rw [if_pos (by omega)]; exact Nat.le_refl _
theorem tk_0 : (tk b n p = 0) = (n ≤ ts b n p) := by
  refine propext ⟨fun h => ?_, fun h => if_pos h⟩
  unfold tk at h
  by_cases h1 : n ≤ ts b n p
  · exact h1
  · rw [if_neg h1] at h
    split at h
    · split at h <;> omega
    · split at h
      · split at h <;> omega
      · split at h <;> omega
theorem tk_le : tk b n p ≤ 4 := by
  unfold tk
  repeat' split
  all_goals omega
theorem tk_p (h : ¬ tk b n p = 0) : p < te b n p := by
  rw [tk_0] at h
  have h1 := te_gt (b := b) (n := n) (p := p) (by omega)
  have h2 := ts_ge (b := b) (n := n) (p := p)
  omega
theorem tk_1 (h : tk b n p = 1) : ts b n p < n ∧ isLt (b (ts b n p)) = true ∧ te b n p = rn isLt b (n - ts b n p) (ts b n p) ∧ te b n p - ts b n p ≤ 8 := by
  have h0 : ¬ n ≤ ts b n p := fun e => by rw [← tk_0] at e; omega
  have h2 : isLt (b (ts b n p)) = true := by
    by_cases h2 : isLt (b (ts b n p)) = true
    · exact h2
    · unfold tk at h
      rw [if_neg h0, if_neg h2] at h
      split at h
      · split at h <;> omega
      · split at h <;> omega
  refine ⟨by omega, h2, by unfold te; rw [if_neg h0, if_pos h2], ?_⟩
  unfold tk at h
  rw [if_neg h0, if_pos h2] at h
  split at h
  · assumption
  · omega
theorem tk_2 (h : tk b n p = 2) : ts b n p < n ∧ isDg (b (ts b n p)) = true ∧ te b n p = rn isDg b (n - ts b n p) (ts b n p) ∧ te b n p - ts b n p ≤ 2 := by
  have h0 : ¬ n ≤ ts b n p := fun e => by rw [← tk_0] at e; omega
  have h1 : ¬ isLt (b (ts b n p)) = true := fun h1 => by
    unfold tk at h
    rw [if_neg h0, if_pos h1] at h
    split at h <;> omega
  have h2 : isDg (b (ts b n p)) = true := by
    by_cases h2 : isDg (b (ts b n p)) = true
    · exact h2
    · unfold tk at h
      rw [if_neg h0, if_neg h1, if_neg h2] at h
      split at h <;> omega
  refine ⟨by omega, h2, by unfold te; rw [if_neg h0, if_neg h1, if_pos h2], ?_⟩
  unfold tk at h
  rw [if_neg h0, if_neg h1, if_pos h2] at h
  split at h
  · assumption
  · omega
theorem wl_mem {s : Nat} : ∀ (k c : Nat), c ∈ wl b s k → ∃ j, j < k ∧ c = b (s + j) := by
  intro k
  induction k with
  | zero => intro c h; cases h
  | succ k ih =>
    intro c h
    rcases List.mem_cons.mp (show c ∈ b (s + k) :: wl b s k from h) with h | h
    · exact ⟨k, by omega, h⟩
    · obtain ⟨j, h1, h2⟩ := ih c h; exact ⟨j, by omega, h2⟩
theorem tw_lw (h : tk b n p = 1) : lw (tw b n p) := by
  obtain ⟨h1, h2, h3, h4⟩ := tk_1 h
  refine ⟨fun c hc => ?_, by unfold tw; rw [wl_len]; exact h4⟩
  obtain ⟨j, hj, rfl⟩ := wl_mem _ _ hc
  have := rn_in (P := isLt) (b := b) (n - ts b n p) (ts b n p) (ts b n p + j) (by omega) (by omega)
  rw [isLt_T] at this; exact this
theorem tv_lt (h : tk b n p = 2) : tv b n p < 100 := by
  obtain ⟨h1, h2, h3, h4⟩ := tk_2 h
  have hd : ∀ j, j < te b n p - ts b n p → b (ts b n p + j) - 48 < 10 := fun j hj => by
    have := rn_in (P := isDg) (b := b) (n - ts b n p) (ts b n p) (ts b n p + j) (by omega) (by omega)
    rw [isDg_T] at this; omega
  unfold tv
  generalize ts b n p = s at *
  generalize te b n p - s = l at *
  match l, h4, hd with
  | 0, _, _ => show 0 < 100; decide
  | 1, _, hd => have := hd 0 (by omega); show 0 * 10 + (b (s + 0) - 48) < 100; omega
  | 2, _, hd => have := hd 0 (by omega); have := hd 1 (by omega); show (0 * 10 + (b (s + 0) - 48)) * 10 + (b (s + 1) - 48) < 100; omega
  | l + 3, h, _ => omega
end TOK
/-- the reserved words -/
def kst (i : Nat) : Nat := [0, 6, 15, 23, 31, 36, 42, 47, 53, 59, 64, 72, 76, 80, 87, 90, 97].getD i 0
def kln (i : Nat) : Nat := [5, 8, 7, 7, 4, 5, 4, 5, 5, 4, 7, 3, 3, 6, 2, 6].getD i 0
def kwb (k : Nat) : Nat := nt (kw_b k)
def kwl (i : Nat) : List Nat := wl kwb (kst i) (kln i)
def kwf (w : List Nat) : Nat → Nat → Nat
  | 0, _ => 0
  | m + 1, i => if w = kwl i then 2 + i else kwf w m (i + 1)
def kwr (w : List Nat) : Nat := kwf w 16 0
theorem kwl_key : ∀ i, i < 16 → wd_key i = lN (kk (kwl i)) ∧ kst (i + 1) = kst i + kln i + 1 ∧ kw_b (kst i + kln i) = nI 32 ∧ kst i + kln i < 97 ∧ 1 ≤ kln i ∧ kln i ≤ 8 ∧ ∀ j, j < 8 → j < kln i → kw_b (kst i + j) = nI (kwb (kst i + j)) ∧ 97 ≤ kwb (kst i + j) ∧ kwb (kst i + j) ≤ 122 := by decide +kernel
theorem kwl_lw {i : Nat} (hi : i < 16) : lw (kwl i) := by
  obtain ⟨_, _, _, _, _, h1, h2⟩ := kwl_key i hi
  refine ⟨fun c hc => ?_, by unfold kwl; rw [wl_len]; exact h1⟩
  obtain ⟨j, hj, rfl⟩ := wl_mem _ _ hc
  exact (h2 j (by omega) hj).2
theorem kwf_r {w : List Nat} : ∀ (m i : Nat), kwf w m i = 0 ∨ (2 + i ≤ kwf w m i ∧ kwf w m i < 2 + i + m) := by
  intro m
  induction m with
  | zero => intro i; exact Or.inl rfl
  | succ m ih =>
    intro i
    unfold kwf
    by_cases h : w = kwl i
    · rw [if_pos h]; exact Or.inr ⟨Nat.le_refl _, by omega⟩
    · rw [if_neg h]
      rcases ih (i + 1) with q | q
      · exact Or.inl q
      · exact Or.inr ⟨by omega, by omega⟩
theorem kwr_r (w : List Nat) : kwr w = 0 ∨ (2 ≤ kwr w ∧ kwr w < 18) := by
  rcases kwf_r (w := w) 16 0 with q | q
  · exact Or.inl q
  · exact Or.inr ⟨by unfold kwr; omega, by unfold kwr; omega⟩

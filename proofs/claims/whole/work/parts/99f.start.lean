/-! THE START: what the Statement says of it makes the constants of the abstract memory -/
def wz (i : Nat) : Term := .static RX7 (wd_nm.getD i "") "LTabulator$Word;"
def lft (c : Cond) : Cond := match c with | .and a _ => a | _ => c
def rgt (c : Cond) : Cond := match c with | .and _ b => b | _ => c
def lftn : Nat → Cond → Cond
  | 0, c => c
  | n + 1, c => lftn n (lft c)
theorem lft_of {args : Array Value} {s : State} {c : Cond} (h : c.before args s = true) : (lft c).before args s = true := by
  unfold lft
  split
  · rw [Cond.before_and, Bool.and_eq_true] at h; exact h.1
  · exact h
theorem rgt_of {args : Array Value} {s : State} {c : Cond} (h : c.before args s = true) : (rgt c).before args s = true := by
  unfold rgt
  split
  · rw [Cond.before_and, Bool.and_eq_true] at h; exact h.2
  · exact h
theorem lftn_of {args : Array Value} {s : State} : ∀ (n : Nat) (c : Cond), c.before args s = true → (lftn n c).before args s = true
  | 0, _, h => h
  | n + 1, c, h => lftn_of n (lft c) (lft_of h)
def nar (i : Nat) : Cond := rgt (lftn (1063 - i) narrow_1)
theorem nar_at {args : Array Value} {s : State} (h : (Cond.and given_1 narrow_1).before args s = true) {w : Cond} (i : Nat) (hi : nar i = w) : w.before args s = true := by
  rw [Cond.before_and, Bool.and_eq_true] at h
  exact hi ▸ rgt_of (lftn_of _ _ h.2)
def ix_ex : List Nat := [290, 299, 309, 320, 332, 345, 359, 374, 390, 407, 257, 269, 260, 264, 275, 282]
theorem nr_ex : ∀ i, i < 16 → nar (ix_ex.getD i 0) = .exactly (wz i) RX7 := by decide +kernel

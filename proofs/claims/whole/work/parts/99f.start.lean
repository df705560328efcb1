/-! THE START: what the Statement says of it makes the constants of the abstract memory -/
def wz (i : Nat) : Term := .static RX7 (wd_nm.getD i "") "LTabulator$Word;"
def flatA : Cond → List Cond → List Cond
  | .and a b, l => flatA a (flatA b l)
  | c, l => c :: l
theorem flatA_of {args : Array Value} {s : State} (T : Cond) : ∀ l : List Cond, T.before args s = true → (∀ c ∈ l, c.before args s = true) → ∀ c ∈ flatA T l, c.before args s = true := by
  induction T with
  | and a b iha ihb =>
    intro l h hl
    rw [Cond.before_and, Bool.and_eq_true] at h
    exact iha _ h.1 (ihb _ h.2 hl)
  | _ =>
    intro l h hl c hc
    rcases List.mem_cons.mp hc with rfl | hc
    · exact h
    · exact hl c hc
def nar : List Cond := flatA given_1 (flatA narrow_1 [])
theorem nar_at {args : Array Value} {s : State} (h : (Cond.and given_1 narrow_1).before args s = true) {w : Cond} (i : Nat) (hi : nar[i]? = some w) : w.before args s = true := by
  rw [Cond.before_and, Bool.and_eq_true] at h
  exact flatA_of given_1 _ h.1 (flatA_of narrow_1 _ h.2 (fun c hc => absurd hc List.not_mem_nil)) w (List.mem_of_getElem? hi)
def ix_ex : List Nat := [290, 299, 309, 320, 332, 345, 359, 374, 390, 407, 257, 269, 260, 264, 275, 282]

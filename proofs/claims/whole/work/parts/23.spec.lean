/-! LAYER 3: the machine as one row of ints, in pure words -/
abbrev SA : Type := Nat → Int32
def ua (A : SA) (i : Nat) (v : Int32) : SA := fun k => if k = i then v else A k
theorem ua_s (A : SA) (i : Nat) (v : Int32) : ua A i v i = v := by unfold ua; rw [if_pos rfl]
theorem ua_n {A : SA} {i k : Nat} {v : Int32} (h : ¬ k = i) : ua A i v k = A k := by unfold ua; rw [if_neg h]
/-- codes of columns -/
def lc (c : Int32) : Prop := c = -nI 1 ∨ c = nI 99 ∨ (∃ d, d < 10 ∧ c = nI d) ∨ ∃ d, d < 10 ∧ c = nI (100 + d)
def bk (c : Int32) : Prop := c = -nI 1 ∨ c = nI 99
def xx (c : Int32) : Prop := nI 99 ≤ c
def dz (c : Int32) : Nat := if c = -nI 1 then 0 else if c = nI 99 then 0 else if nI 99 ≤ c then nt c - 100 else nt c
def pc (c : Int32) : Int32 := if c = -nI 1 then nI 32 else if c = nI 99 then nI 32 else nI (48 + dz c)
def hp (c : Int32) (p : Nat) : Bool := if p = 10 then decide (nI 99 ≤ c) else if c = -nI 1 then false else if c = nI 99 then false else decide (dz c = p)
/-- values of fields -/
def valr (A : SA) (card : Nat) : Nat → Nat → Nat → Nat
  | _, 0, v => v
  | c, n + 1, v => valr A card (c + 1) n (v * 10 + dz (A (200 + 20 * card + c - 1)))
def fr (A : SA) (f : Nat) : Nat := nt (A (9 + 2 * f))
def tr (A : SA) (f : Nat) : Nat := nt (A (9 + 2 * f + 1))
def sp_val (A : SA) (card f : Nat) : Nat := valr A card (fr A f) (tr A f + 1 - fr A f) 0
def sp_sval (A : SA) (card f : Nat) : Int32 := if nI 99 ≤ A (200 + 20 * card + tr A f - 1) then -nI (sp_val A card f) else nI (sp_val A card f)
def brk (A : SA) (card : Nat) : Nat → Nat
  | 0 => 0
  | l + 1 => if A (73 + (l + 1) - 1) = -nI 1 ∨ sp_val A card (nt (A (73 + (l + 1) - 1))) = sp_val A (card - 1) (nt (A (73 + (l + 1) - 1))) then brk A card l else l + 1
def sp_brk (A : SA) (card : Nat) : Nat := if card = 0 then 0 else brk A card 3
/-- adding -/
def sg (s : Int) (n : Nat) : Int32 := if 0 ≤ s then nI n else -nI n
def sp_add (A : SA) (k : Nat) (a : Int32) : SA :=
  let s := (A (1006 + k)).toInt + a.toInt
  let m := 10 ^ nt (A (43 + 5 * k))
  ua (if m ≤ s.natAbs then ua A (1012 + k) (A (1012 + k) + nI 1) else A) (1006 + k) (sg s (s.natAbs % m))
def sp_roll (l : Nat) : Nat → Nat → SA → SA
  | _, 0, A => A
  | k, n + 1, A => sp_roll l (k + 1) n (if A (136 + 3 * k) = nI l then sp_add A (nt (A (136 + 3 * k + 2))) (A (1006 + nt (A (136 + 3 * k + 1)))) else A)
def sp_clear (l : Nat) : Nat → Nat → SA → SA
  | _, 0, A => A
  | k, n + 1, A => sp_clear l (k + 1) n (if A (160 + 2 * k) = nI l then ua A (1006 + nt (A (160 + 2 * k + 1))) (nI 0) else A)
/-- lines -/
def pt (p : Nat) (c : Int32) (ln : SA) : SA := if p ≤ 40 then ua ln p c else ln
def sp_num (pos w : Nat) : Nat → Nat → SA → SA
  | 0, _, ln => ln
  | p + 1, left, ln => sp_num pos w p (left / 10) (pt (pos + p) (if left = 0 ∧ p < w - 1 then nI 32 else nI (48 + left % 10)) ln)
def sp_pnum (A : SA) (c pos : Nat) (ln : SA) : SA :=
  pt (pos + nt (A (43 + 5 * c))) (if A (1006 + c) < nI 0 then nI 45 else nI 32) (sp_num pos (nt (A (43 + 5 * c))) (nt (A (43 + 5 * c))) (A (1006 + c)).toInt.natAbs ln)
def sp_tots (A : SA) (l : Nat) : Nat → Nat → SA → SA
  | _, 0, ln => ln
  | k, n + 1, ln => sp_tots A l (k + 1) n (if A (100 + 3 * k) = nI l then sp_pnum A (nt (A (100 + 3 * k + 1))) (nt (A (100 + 3 * k + 2))) ln else ln)
def bln : SA := fun _ => nI 32
def sp_star (l : Nat) (ln : SA) : SA := fun p => if 40 < p + l ∧ p ≤ 40 then nI 42 else ln p
def sp_endl (A : SA) (lv : Int32) (ln : SA) : SA :=
  fun i => if i = 1018 then A 1018 + nI 1 else if nt (A 1018) < 120 ∧ i = 1020 + nt (A 1018) then lv else if nt (A 1018) < 120 ∧ 1140 + 40 * nt (A 1018) ≤ i ∧ i < 1140 + 40 * nt (A 1018) + 40 then ln (i - (1140 + 40 * nt (A 1018)) + 1) else A i
def hasl (A : SA) (base stride l n : Nat) : Prop := ∃ k, k < n ∧ A (base + stride * k) = nI l
noncomputable def sp_ptot (A : SA) (l : Nat) : SA := @ite _ (hasl A 100 3 l (nt (A 4))) (Classical.propDecidable _) (sp_endl A (nI l) (sp_star l (sp_tots A l 0 (nt (A 4)) bln))) A
/-- summary cards -/
def pu (col : Nat) (c : Int32) (cd : SA) : SA := if col ≤ 20 then ua cd (col - 1) c else cd
def sp_pf (A : SA) (from_ col : Nat) : Nat → Nat → SA → SA
  | _, 0, cd => cd
  | c, n + 1, cd => sp_pf A from_ col (c + 1) n (pu (col + c - from_) (A (200 + 20 * (nt (A 1000) - 1) + c - 1)) cd)
def sp_pc (neg : Bool) (col w : Nat) : Nat → Nat → SA → SA
  | 0, _, cd => cd
  | p + 1, left, cd => sp_pc neg col w p (left / 10) (pu (col + p) (if p = w - 1 ∧ neg = true then nI (left % 10 + 100) else nI (left % 10)) cd)
def sp_p1 (A : SA) (what col : Nat) (cd : SA) : SA :=
  if what < 8 then sp_pf A (fr A what) col (fr A what) (tr A what + 1 - fr A what) cd
  else sp_pc (decide (A (1006 + what - 8) < nI 0)) col (nt (A (43 + 5 * (what - 8)))) (nt (A (43 + 5 * (what - 8)))) (A (1006 + what - 8)).toInt.natAbs cd
def sp_puns (A : SA) (l : Nat) : Nat → Nat → SA → SA
  | _, 0, cd => cd
  | k, n + 1, cd => sp_puns A l (k + 1) n (if A (176 + 3 * k) = nI l then sp_p1 A (nt (A (176 + 3 * k + 1))) (nt (A (176 + 3 * k + 2))) cd else cd)
def bcd : SA := fun _ => -nI 1
def sp_ends (A : SA) (cd : SA) : SA :=
  fun i => if i = 1019 then A 1019 + nI 1 else if nt (A 1019) < 40 ∧ 5940 + 20 * nt (A 1019) ≤ i ∧ i < 5940 + 20 * nt (A 1019) + 20 then cd (i - (5940 + 20 * nt (A 1019))) else A i
noncomputable def sp_psum (A : SA) (l : Nat) : SA := @ite _ (hasl A 176 3 l (nt (A 7))) (Classical.propDecidable _) (sp_ends A (sp_puns A l 0 (nt (A 7)) bcd)) A
/-- cycles -/
noncomputable def sp_cyc (A : SA) (l : Nat) : SA :=
  let A1 := sp_roll l 0 (nt (A 5)) A
  let A2 := sp_ptot A1 l
  let A3 := sp_psum A2 l
  let A4 := sp_clear l 0 (nt (A 6)) A3
  ua A4 (1003 + l - 1) (A4 (1003 + l - 1) + nI 1)
noncomputable def sp_cycs : Nat → Nat → SA → SA
  | _, 0, A => A
  | l, n + 1, A => sp_cycs (l + 1) n (sp_cyc A l)
/-- cards -/
def sp_on (A : SA) (card k : Nat) : Bool :=
  if A (25 + 3 * k + 2) = nI 1 then (if card = 0 then false else hp (A (200 + 20 * (card - 1) + nt (A (25 + 3 * k)) - 1)) (nt (A (25 + 3 * k + 1))))
  else hp (A (200 + 20 * card + nt (A (25 + 3 * k)) - 1)) (nt (A (25 + 3 * k + 1)))
def onb (A : SA) (card : Nat) : Nat → Nat
  | 0 => 0
  | k + 1 => onb A card k + (if sp_on A card k then 2 ^ k else 0)
def sp_sel (A : SA) (card : Nat) : SA := ua A 1002 (nI (onb A card (nt (A 1))))
def sp_adds (A : SA) (k : Nat) : Bool := if A (43 + 5 * k + 3) = -nI 1 then true else decide (¬ nt (A 1002) / 2 ^ nt (A (43 + 5 * k + 3)) % 2 = nt (A (43 + 5 * k + 4)))
def sp_amt (A : SA) (card k : Nat) : Int32 :=
  if A (43 + 5 * k + 2) = nI 0 then nI (sp_val A card (nt (A (43 + 5 * k + 1)))) else if A (43 + 5 * k + 2) = nI 1 then -nI (sp_val A card (nt (A (43 + 5 * k + 1)))) else sp_sval A card (nt (A (43 + 5 * k + 1)))
def sp_cnt (card : Nat) : Nat → Nat → SA → SA
  | _, 0, A => A
  | k, n + 1, A => sp_cnt card (k + 1) n (if sp_adds A k = true then sp_add A k (sp_amt A card k) else A)
def sp_df (A : SA) (card : Nat) : Nat → Nat → Nat → SA → SA
  | _, 0, _, ln => ln
  | c, n + 1, pos, ln => sp_df A card (c + 1) n (pos + 1) (pt pos (pc (A (200 + 20 * card + c - 1))) ln)
def sp_dls (A : SA) (card : Nat) : Nat → Nat → SA → SA
  | _, 0, ln => ln
  | k, n + 1, ln => sp_dls A card (k + 1) n (sp_df A card (fr A (nt (A (76 + 2 * k)))) (tr A (nt (A (76 + 2 * k))) + 1 - fr A (nt (A (76 + 2 * k)))) (nt (A (76 + 2 * k + 1))) ln)
def sp_det (A : SA) (card : Nat) : SA := if nt (A 3) = 0 then A else sp_endl A (nI 0) (sp_dls A card 0 (nt (A 3)) bln)
noncomputable def sp_proc (A : SA) : SA :=
  let card := nt (A 1000)
  let A1 := sp_cycs 1 (sp_brk A card) A
  let A2 := sp_sel A1 card
  let A3 := sp_cnt card 0 (nt (A 2)) A2
  let A4 := sp_det A3 card
  ua A4 1000 (nI (card + 1))
noncomputable def sp_procs : Nat → SA → SA
  | 0, A => A
  | n + 1, A => sp_procs n (sp_proc A)
/-- all cards, and the last totals -/
noncomputable def sp_tot (A : SA) : SA := ua (if nt (A 1000) = 0 then A else sp_cycs 1 3 A) 1001 (nI 1)
noncomputable def sp_fin (A : SA) : SA := sp_tot (sp_procs (nt (A 8) - nt (A 1000)) A)
/-- a machine at its start -/
def sp_reset (A : SA) : SA := fun i => if 1000 ≤ i ∧ i < 1020 then nI 0 else A i
-- what a plugboard and a deck keep to
def lt3 (x : Int32) : Prop := isN x 1 3
def WB (A : SA) : Prop :=
  isN (A 0) 0 8 ∧ isN (A 1) 0 6 ∧ isN (A 2) 0 6 ∧ isN (A 3) 0 12 ∧ isN (A 4) 0 12 ∧ isN (A 5) 0 8 ∧ isN (A 6) 0 8 ∧ isN (A 7) 0 8 ∧ isN (A 8) 0 40 ∧
  (∀ i, i < nt (A 0) → isN (A (9 + 2 * i)) 1 20 ∧ isN (A (9 + 2 * i + 1)) (fr A i) (min 20 (fr A i + 8))) ∧
  (∀ i, i < nt (A 1) → isN (A (25 + 3 * i)) 1 20 ∧ isN (A (25 + 3 * i + 1)) 0 10 ∧ isN (A (25 + 3 * i + 2)) 0 1) ∧
  (∀ i, i < nt (A 2) → isN (A (43 + 5 * i)) 1 9 ∧ (isN (A (43 + 5 * i + 1)) 0 7 ∧ nt (A (43 + 5 * i + 1)) < nt (A 0)) ∧ isN (A (43 + 5 * i + 2)) 0 2 ∧ (A (43 + 5 * i + 3) = -nI 1 ∨ (isN (A (43 + 5 * i + 3)) 0 5 ∧ nt (A (43 + 5 * i + 3)) < nt (A 1))) ∧ isN (A (43 + 5 * i + 4)) 0 1) ∧
  (∀ l, 1 ≤ l → l ≤ 3 → (A (73 + l - 1) = -nI 1 ∨ (isN (A (73 + l - 1)) 0 7 ∧ nt (A (73 + l - 1)) < nt (A 0)))) ∧
  (∀ i, i < nt (A 3) → (isN (A (76 + 2 * i)) 0 7 ∧ nt (A (76 + 2 * i)) < nt (A 0)) ∧ isN (A (76 + 2 * i + 1)) 1 40) ∧
  (∀ i, i < nt (A 4) → isN (A (100 + 3 * i)) 1 3 ∧ (isN (A (100 + 3 * i + 1)) 0 5 ∧ nt (A (100 + 3 * i + 1)) < nt (A 2)) ∧ isN (A (100 + 3 * i + 2)) 1 40) ∧
  (∀ i, i < nt (A 5) → isN (A (136 + 3 * i)) 1 3 ∧ (isN (A (136 + 3 * i + 1)) 0 5 ∧ nt (A (136 + 3 * i + 1)) < nt (A 2)) ∧ isN (A (136 + 3 * i + 2)) 0 5 ∧ nt (A (136 + 3 * i + 2)) < nt (A 2)) ∧
  (∀ i, i < nt (A 6) → isN (A (160 + 2 * i)) 1 3 ∧ isN (A (160 + 2 * i + 1)) 0 5 ∧ nt (A (160 + 2 * i + 1)) < nt (A 2)) ∧
  (∀ i, i < nt (A 7) → isN (A (176 + 3 * i)) 1 3 ∧ (isN (A (176 + 3 * i + 1)) 0 13 ∧ ((nt (A (176 + 3 * i + 1)) < 8 ∧ nt (A (176 + 3 * i + 1)) < nt (A 0)) ∨ (8 ≤ nt (A (176 + 3 * i + 1)) ∧ nt (A (176 + 3 * i + 1)) - 8 < nt (A 2)))) ∧ isN (A (176 + 3 * i + 2)) 1 20) ∧
  (∀ i k, i < nt (A 8) → 1 ≤ k → k ≤ 20 → lc (A (200 + 20 * i + k - 1)))
/-- what the run keeps to; b bounds what is counted -/
def WM (A : SA) (b : Nat) : Prop :=
  isN (A 1000) 0 (nt (A 8)) ∧ isN (A 1001) 0 1 ∧ (isN (A 1002) 0 63 ∧ nt (A 1002) < 2 ^ nt (A 1)) ∧ (∀ k, k < 6 → (A (1006 + k)).toInt.natAbs < 1000000000) ∧ (∀ k, k < 6 → isN (A (1012 + k)) 0 b) ∧ isN (A 1018) 0 b ∧ isN (A 1019) 0 b ∧ ∀ i k, i < min (nt (A 1019)) 40 → 1 ≤ k → k ≤ 20 → lc (A (5940 + 20 * i + k - 1))
-- a machine of the class holds such a row
def RT (I : Nat → SA) (t : Nat) (A : SA) (k base stride : Nat) : Prop := I t 2 = A k ∧ ∀ i j, i < nt (A k) → j < stride → I (t + 1) (i * 5 + j) = A (base + stride * i + j)
def RT7 (I : Nat → SA) (t : Nat) (A : SA) : Prop := I t 2 = A 7 ∧ ∀ i, i < nt (A 7) → I (t + 1) (i * 5 + 0) = A (176 + 3 * i) ∧ I (t + 1) (i * 5 + 3) = A (176 + 3 * i + 2) ∧
  ((nt (A (176 + 3 * i + 1)) < 8 ∧ I (t + 1) (i * 5 + 1) = nI 1 ∧ I (t + 1) (i * 5 + 2) = A (176 + 3 * i + 1)) ∨ (8 ≤ nt (A (176 + 3 * i + 1)) ∧ I (t + 1) (i * 5 + 1) = nI 0 ∧ I (t + 1) (i * 5 + 2) = nI (nt (A (176 + 3 * i + 1)) - 8)))
def RB (I : Nat → SA) (r : Nat) (A : SA) : Prop :=
  RT I (r + 2) A 0 9 2 ∧ RT I (r + 4) A 1 25 3 ∧ RT I (r + 6) A 2 43 5 ∧ RT I (r + 8) A 3 76 2 ∧ RT I (r + 10) A 4 100 3 ∧ RT I (r + 12) A 5 136 3 ∧ RT I (r + 14) A 6 160 2 ∧ RT7 I (r + 16) A ∧ ∀ l, 1 ≤ l → l ≤ 3 → I (r + 18) l = A (73 + l - 1)
def RD (I : Nat → SA) (d : Nat) (A : SA) : Prop := I d 1 = A 8 ∧ ∀ i k, i < nt (A 8) → 1 ≤ k → k ≤ 20 → I (d + 1) (i * 20 + k - 1) = A (200 + 20 * i + k - 1)
def RN (I : Nat → SA) (r : Nat) (A : SA) : Prop := ∀ k, k < 6 → I (r + 21) k = A (1006 + k)
def RO (I : Nat → SA) (r : Nat) (A : SA) : Prop := ∀ k, k < 6 → I (r + 22) k = A (1012 + k)
def RS (I : Nat → SA) (r : Nat) (A : SA) : Prop := ∀ k, k < 6 → I (r + 23) k = nI (nt (A 1002) / 2 ^ k % 2)
def RG (I : Nat → SA) (r : Nat) (A : SA) : Prop := ∀ l, 1 ≤ l → l ≤ 3 → I (r + 24) l = A (1003 + l - 1)
def RPl (I : Nat → SA) (r : Nat) (A : SA) (n : Nat) : Prop := ∀ l, l < n → I (r + 28) l = A (1020 + l) ∧ ∀ k, 1 ≤ k → k ≤ 40 → I (r + 27) (l * 40 + k - 1) = A (1140 + 40 * l + k - 1)
def RP (I : Nat → SA) (r : Nat) (A : SA) : Prop := I (r + 26) 2 = A 1018 ∧ RPl I r A (min (nt (A 1018)) 120)
def RUl (I : Nat → SA) (r : Nat) (A : SA) (n : Nat) : Prop := ∀ i k, i < n → 1 ≤ k → k ≤ 20 → I (r + 30) (i * 20 + k - 1) = A (5940 + 20 * i + k - 1)
def RU (I : Nat → SA) (r : Nat) (A : SA) : Prop := I (r + 29) 1 = nI (min (nt (A 1019)) 40) ∧ RUl I r A (min (nt (A 1019)) 40)
def RF (I : Nat → SA) (r : Nat) (A : SA) : Prop := I r 9 = A 1019 ∧ I r 10 = A 1000 ∧ I r 11 = A 1001
def Rep (I : Nat → SA) (r : Nat) (A : SA) : Prop := RB I r A ∧ RD I (r + 19) A ∧ RN I r A ∧ RO I r A ∧ RS I r A ∧ RG I r A ∧ RP I r A ∧ RU I r A ∧ RF I r A
/-- the plugboard and the deck alone -/
def RBD (I : Nat → SA) (r : Nat) (A : SA) : Prop := RB I r A ∧ RD I (r + 19) A
theorem Rep.bd {I : Nat → SA} {r : Nat} {A : SA} (h : Rep I r A) : RBD I r A := ⟨h.1, h.2.1⟩

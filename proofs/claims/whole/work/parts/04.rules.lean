/-! THE JUDGEMENT: from an abstract state (locals by place, stack, memory) the method comes to an end that Qr allows. -/
abbrev MI : Type := String × MethodName × ByteArray × Nat × Option FieldType × List (Nat × Nat × Nat × Nat) × Room
abbrev MI.own (M : MI) : String := M.1
abbrev MI.y (M : MI) : MethodName := M.2.1
abbrev MI.cc (M : MI) : ByteArray := M.2.2.1
abbrev MI.n (M : MI) : Nat := M.2.2.2.1
abbrev MI.ret (M : MI) : Option FieldType := M.2.2.2.2.1
abbrev MI.hh (M : MI) : List (Nat × Nat × Nat × Nat) := M.2.2.2.2.2.1
abbrev MI.rm (M : MI) : Room := M.2.2.2.2.2.2
def ab_E (k : Nat) : String := match k with
  | 0 => "java/lang/IndexOutOfBoundsException"
  | 1 => "java/lang/IllegalArgumentException"
  | _ => "java/lang/IllegalStateException"
def okv (n : Nat) (v : Value) : Prop := match v with
  | .ref r => r < n
  | _ => True
def ok_s (n : Nat) (st : List Value) : Prop := ∀ v ∈ st, okv n v
def ok_l (n : Nat) (lv : List (Option Value)) : Prop := ∀ (i : Nat) (v : Value), lv[i]? = some (some v) → okv n v
theorem ok_t1 {n : Nat} {a : Value} {st : List Value} (h : ok_s n (a :: st)) : ok_s n st := fun v hv => h v (List.mem_cons_of_mem _ hv)
theorem ok_t2 {n : Nat} {a b : Value} {st : List Value} (h : ok_s n (a :: b :: st)) : ok_s n st := ok_t1 (ok_t1 h)
theorem ok_t3 {n : Nat} {a b c : Value} {st : List Value} (h : ok_s n (a :: b :: c :: st)) : ok_s n st := ok_t1 (ok_t2 h)
theorem ok_h {n : Nat} {a : Value} {st : List Value} (h : ok_s n (a :: st)) : okv n a := h a List.mem_cons_self
theorem ok_c {n : Nat} {a : Value} {st : List Value} (h : okv n a) (h2 : ok_s n st) : ok_s n (a :: st) := fun v hv => (List.mem_cons.mp hv).elim (fun e => e ▸ h) (h2 v)
theorem ok_up {n n2 : Nat} {st : List Value} (h : ok_s n st) (hn : n ≤ n2) : ok_s n2 st := fun v hv => by have h2 := h v hv; cases v <;> first | trivial | exact Nat.lt_of_lt_of_le h2 hn
def ab_ext (ad0 : Nat → Nat) (n0 : Nat) (ad : Nat → Nat) : Prop := ∀ r, r < n0 → ad r = ad0 r
def ab_R (cx : CX) (ad0 : Nat → Nat) (n0 : Nat) (Q : Mem → (Nat → Nat) → Prop) (st t : State) : Prop :=
  ∃ (μ : Mem) (ad : Nat → Nat), Q μ ad ∧ ab_ext ad0 n0 ad ∧ n0 ≤ gN μ ∧ Wd cx ad μ st t.heap ∧ va_F cx.A st t
def ab_Qc (cx : CX) (ad0 : Nat → Nat) (n0 : Nat) (Qr : (Option Value ⊕ Nat) → Mem → Prop) : Array Value → State → Outcome → State → Prop := fun _ st o t =>
  ab_R cx ad0 n0 (fun μ ad => ∃ v : Option Value, o = .returned (v.map (cv ad)) ∧ Qr (.inl v) μ ∧ ∀ x, v = some x → okv (gN μ) x) st t
def ab_XC (cx : CX) (ad0 : Nat → Nat) (n0 : Nat) (Qr : (Option Value ⊕ Nat) → Mem → Prop) : String → State → State → Prop := fun E st t =>
  ab_R cx ad0 n0 (fun μ _ => ∃ k : Nat, E = ab_E k ∧ Qr (.inr k) μ) st t
/-- the locals, by place: what is known of them -/
def ab_lv (ad : Nat → Nat) (ls : Array Slot) (n : Nat) (lv : List (Option Value)) : Prop := ls.size = n ∧ lv_wf ls ∧ ∀ (i : Nat) (v : Value), lv[i]? = some (some v) → ls[i]? = some (.val (cv ad v))
def HX (cx : CX) (M : MI) (p : Program) (l : Launch) (s : State) (m : MethodId) (args : Array Value) (meth : Method) (c : Code) : Prop :=
  p.tables.exec = Jvm.exec ∧ c.code = M.cc ∧ c.maxLocals = M.n ∧ meth.sig.returnType = M.ret ∧ meth.locks = false ∧ s.vm.findClass M.own = some m.cls ∧ (∀ w ∈ ab_WA, w.before args s = true) ∧ c.exceptionTable.toList = tableOf M.hh ∧ l.stackTraces = false ∧ meth.name = M.y.name ∧ Cs cx s
def S (M : MI) (Qr : (Option Value ⊕ Nat) → Mem → Prop) (cells slots pc : Nat) (lv : List (Option Value)) (st : List Value) (μ : Mem) : Prop :=
  ∀ (cx : CX) (ad0 : Nat → Nat) (n0 : Nat) (p : Program) (l : Launch) (e : Env) (s : State) (m : MethodId) (args : Array Value) (below : List Frame) (meth : Method) (c : Code), HX cx M p l s m args meth c →
  ∀ (d0 : Drawn) (ad : Nat → Nat) (H : Heap) (locs : List Loc) (ls : Array Slot), s.drawn.sameBut d0 lw_cs → ab_ext ad0 n0 ad → n0 ≤ gN μ → Wd cx ad μ s H → va_S cx.A s.heap H locs → ab_lv ad ls M.n lv → ok_l (gN μ) lv → ok_s (gN μ) st →
  W p l e M.rm (s.setDrawn d0) m args below meth c H locs cells slots (uMQ below (ab_Qc cx ad0 n0 Qr) (ab_XC cx ad0 n0 Qr) args s M.rm.cells M.rm.slots cx.A) (F0 m pc ls (st.map (cv ad)))
theorem cv_cat (ad : Nat → Nat) (v : Value) : (cv ad v).category = v.category := by
  cases v with
  | ref r => by_cases h : r = 0 <;> simp [cv, cv_r, Value.category, h]
  | _ => rfl
theorem cv_sum (ad : Nat → Nat) (st : List Value) : ((st.map (cv ad)).map fun v => v.category).sum = (st.map fun v => v.category).sum := by
  induction st with
  | nil => rfl
  | cons a t ih => simp only [List.map_cons, List.sum_cons, ih, cv_cat]
theorem ab_lv.to {ad : Nat → Nat} {ls : Array Slot} {n : Nat} {lv : List (Option Value)} (h : ab_lv ad ls n lv) : lv_has ls n ((List.range lv.length).filterMap fun i => (lv[i]?.join).map fun v => (i, cv ad v)) := by
  refine ⟨h.1, h.2.1, fun q hq => ?_⟩
  obtain ⟨i, hi, hq⟩ := List.mem_filterMap.mp hq
  cases hv : lv[i]? with
  | none => rw [hv] at hq; simp at hq
  | some x =>
    rw [hv] at hq
    cases x with
    | none => simp at hq
    | some v =>
      simp at hq
      subst hq
      exact h.2.2 i v hv
/-- fewer known locals -/
def ab_le : List (Option Value) → List (Option Value) → Prop
  | [], _ => True
  | none :: t, [] => ab_le t []
  | some _ :: _, [] => False
  | none :: t, _ :: t2 => ab_le t t2
  | some v :: t, x :: t2 => x = some v ∧ ab_le t t2
theorem ab_le_spec {l2 l1 : List (Option Value)} (h : ab_le l2 l1) (i : Nat) (v : Value) (hv : l2[i]? = some (some v)) : l1[i]? = some (some v) := by
  induction l2 generalizing l1 i with
  | nil => simp at hv
  | cons a t ih =>
    cases i with
    | zero =>
      simp at hv
      subst hv
      cases l1 with
      | nil => exact h.elim
      | cons b t2 => simp [h.1]
    | succ j =>
      simp at hv
      cases l1 with
      | nil =>
        cases a with
        | none => have := ih h j hv; simp at this
        | some w => exact h.elim
      | cons b t2 =>
        cases a with
        | none => simpa using ih h j hv
        | some w => simpa using ih h.2 j hv
theorem S.sub {M : MI} {Qr : (Option Value ⊕ Nat) → Mem → Prop} {cells slots pc : Nat} {lv lv' : List (Option Value)} {st : List Value} {μ : Mem} (k : S M Qr cells slots pc lv' st μ) (h : ab_le lv' lv) : S M Qr cells slots pc lv st μ :=
  fun cx ad0 n0 p l e s m args below meth c hx d0 ad H locs ls hd he hn hw hS hl ho hs => k cx ad0 n0 p l e s m args below meth c hx d0 ad H locs ls hd he hn hw hS ⟨hl.1, hl.2.1, fun i v hv => hl.2.2 i v (ab_le_spec h i v hv)⟩ (fun i v hv => ho i v (ab_le_spec h i v hv)) hs
theorem S.wide {M : MI} {Qr : (Option Value ⊕ Nat) → Mem → Prop} {cells slots cells' slots' pc : Nat} {lv : List (Option Value)} {st : List Value} {μ : Mem} (k : S M Qr cells' slots' pc lv st μ) (h1 : cells ≤ cells') (h2 : slots ≤ slots') : S M Qr cells slots pc lv st μ :=
  fun cx ad0 n0 p l e s m args below meth c hx d0 ad H locs ls hd he hn hw hS hl ho hs => W.widen h1 h2 (k cx ad0 n0 p l e s m args below meth c hx d0 ad H locs ls hd he hn hw hS hl ho hs)
def clr2 (x : Option Value) : Option Value := match x with
  | some v => if v.category = 2 then none else some v
  | none => none
/-- a store -/
def sto1 : List (Option Value) → Nat → Value → List (Option Value)
  | [], _, _ => []
  | _ :: t, 0, v => some v :: t
  | a :: t, 1, v => clr2 a :: sto1 t 0 v
  | a :: t, n + 2, v => a :: sto1 t (n + 1) v
def sto2 : List (Option Value) → Nat → Value → List (Option Value)
  | [], _, _ => []
  | [_], 0, v => [some v]
  | _ :: _ :: t, 0, v => some v :: none :: t
  | a :: t, 1, v => clr2 a :: sto2 t 0 v
  | a :: t, n + 2, v => a :: sto2 t (n + 1) v
theorem sto1_spec (lv : List (Option Value)) (i : Nat) (v : Value) (j : Nat) (w : Value) (h : (sto1 lv i v)[j]? = some (some w)) : (j = i ∧ w = v) ∨ (j ≠ i ∧ lv[j]? = some (some w) ∧ ¬ (j + 1 = i ∧ w.category = 2)) := by
  induction lv generalizing i j with
  | nil => simp [sto1] at h
  | cons a t ih =>
    match i with
    | 0 =>
      cases j with
      | zero => simp [sto1] at h; exact Or.inl ⟨rfl, h.symm⟩
      | succ j => simp [sto1] at h; exact Or.inr ⟨by omega, by simpa using h, by omega⟩
    | 1 =>
      cases j with
      | zero =>
        simp [sto1, clr2] at h
        cases a with
        | none => simp at h
        | some x =>
          by_cases hx : x.category = 2
          · simp [hx] at h
          · simp [hx] at h
            subst h
            exact Or.inr ⟨by omega, by simp, by simp [hx]⟩
      | succ j =>
        simp only [sto1, List.getElem?_cons_succ] at h
        rcases ih 0 j h with ⟨h1, h2⟩ | ⟨h1, h2, h3⟩
        · exact Or.inl ⟨by omega, h2⟩
        · exact Or.inr ⟨by omega, by simpa using h2, by omega⟩
    | n + 2 =>
      cases j with
      | zero => simp [sto1] at h; exact Or.inr ⟨by omega, by simp [h], by omega⟩
      | succ j =>
        simp only [sto1, List.getElem?_cons_succ] at h
        rcases ih (n + 1) j h with ⟨h1, h2⟩ | ⟨h1, h2, h3⟩
        · exact Or.inl ⟨by omega, h2⟩
        · exact Or.inr ⟨by omega, by simpa using h2, by omega⟩
theorem sto2_spec (lv : List (Option Value)) (i : Nat) (v : Value) (j : Nat) (w : Value) (h : (sto2 lv i v)[j]? = some (some w)) : (j = i ∧ w = v) ∨ (j ≠ i ∧ j ≠ i + 1 ∧ lv[j]? = some (some w) ∧ ¬ (j + 1 = i ∧ w.category = 2)) := by
  induction lv generalizing i j with
  | nil => simp [sto2] at h
  | cons a t ih =>
    match i with
    | 0 =>
      cases t with
      | nil =>
        cases j with
        | zero => simp [sto2] at h; exact Or.inl ⟨rfl, h.symm⟩
        | succ j => simp [sto2] at h
      | cons b t =>
        match j with
        | 0 => simp [sto2] at h; exact Or.inl ⟨rfl, h.symm⟩
        | 1 => simp [sto2] at h
        | j + 2 => simp [sto2] at h; exact Or.inr ⟨by omega, by omega, by simpa using h, by omega⟩
    | 1 =>
      cases j with
      | zero =>
        simp [sto2, clr2] at h
        cases a with
        | none => simp at h
        | some x =>
          by_cases hx : x.category = 2
          · simp [hx] at h
          · simp [hx] at h
            subst h
            exact Or.inr ⟨by omega, by omega, by simp, by simp [hx]⟩
      | succ j =>
        simp only [sto2, List.getElem?_cons_succ] at h
        rcases ih 0 j h with ⟨h1, h2⟩ | ⟨h1, h2, h3, h4⟩
        · exact Or.inl ⟨by omega, h2⟩
        · exact Or.inr ⟨by omega, by omega, by simpa using h3, by omega⟩
    | n + 2 =>
      cases j with
      | zero => simp [sto2] at h; exact Or.inr ⟨by omega, by omega, by simp [h], by omega⟩
      | succ j =>
        simp only [sto2, List.getElem?_cons_succ] at h
        rcases ih (n + 1) j h with ⟨h1, h2⟩ | ⟨h1, h2, h3, h4⟩
        · exact Or.inl ⟨by omega, h2⟩
        · exact Or.inr ⟨by omega, by omega, by simpa using h3, by omega⟩
theorem ab_lv.st1 {ad : Nat → Nat} {ls ls' : Array Slot} {n i : Nat} {lv lv' : List (Option Value)} {v : Value} (hl : ab_lv ad ls n lv) (hv : sto1 lv i v = lv')
    (h : lv_has ls' n ((i, cv ad v) :: ((List.range lv.length).filterMap fun i => (lv[i]?.join).map fun v => (i, cv ad v)).filter (fun q => !(q.1 == i) && !(q.1 + 1 == i && q.2.category == 2)))) : ab_lv ad ls' n lv' := by
  refine ⟨h.1, h.2.1, fun j w hj => ?_⟩
  rw [← hv] at hj
  rcases sto1_spec lv i v j w hj with ⟨rfl, rfl⟩ | ⟨h1, h2, h3⟩
  · exact h.2.2 (j, cv ad w) List.mem_cons_self
  · refine h.2.2 (j, cv ad w) (List.mem_cons_of_mem _ (List.mem_filter.mpr ⟨List.mem_filterMap.mpr ⟨j, ?_, by rw [h2]; rfl⟩, ?_⟩))
    · rw [List.mem_range]
      exact (List.getElem?_eq_some_iff.mp h2).1
    · simp only [Bool.and_eq_true, Bool.not_eq_true', beq_eq_false_iff_ne, ne_eq, Bool.and_eq_false_iff, cv_cat]
      refine ⟨h1, ?_⟩
      by_cases hj : j + 1 = i
      · exact Or.inr fun hc => h3 ⟨hj, hc⟩
      · exact Or.inl hj
theorem ab_lv.st2 {ad : Nat → Nat} {ls ls' : Array Slot} {n i : Nat} {lv lv' : List (Option Value)} {v : Value} (hl : ab_lv ad ls n lv) (hv : sto2 lv i v = lv')
    (h : lv_has ls' n ((i, cv ad v) :: ((List.range lv.length).filterMap fun i => (lv[i]?.join).map fun v => (i, cv ad v)).filter (fun q => !(q.1 == i) && (!(q.1 == i + 1) && !(q.1 + 1 == i && q.2.category == 2))))) : ab_lv ad ls' n lv' := by
  refine ⟨h.1, h.2.1, fun j w hj => ?_⟩
  rw [← hv] at hj
  rcases sto2_spec lv i v j w hj with ⟨rfl, rfl⟩ | ⟨h1, h1', h2, h3⟩
  · exact h.2.2 (j, cv ad w) List.mem_cons_self
  · refine h.2.2 (j, cv ad w) (List.mem_cons_of_mem _ (List.mem_filter.mpr ⟨List.mem_filterMap.mpr ⟨j, ?_, by rw [h2]; rfl⟩, ?_⟩))
    · rw [List.mem_range]
      exact (List.getElem?_eq_some_iff.mp h2).1
    · simp only [Bool.and_eq_true, Bool.not_eq_true', beq_eq_false_iff_ne, ne_eq, Bool.and_eq_false_iff, cv_cat]
      refine ⟨h1, h1', ?_⟩
      by_cases hj : j + 1 = i
      · exact Or.inr fun hc => h3 ⟨hj, hc⟩
      · exact Or.inl hj
theorem ok_l1 {n i : Nat} {lv lv' : List (Option Value)} {v : Value} (h : ok_l n lv) (hv : okv n v) (he : sto1 lv i v = lv') : ok_l n lv' := fun j w hj => by
  rw [← he] at hj
  rcases sto1_spec lv i v j w hj with ⟨rfl, rfl⟩ | ⟨h1, h2, h3⟩
  · exact hv
  · exact h j w h2
theorem ok_l2 {n i : Nat} {lv lv' : List (Option Value)} {v : Value} (h : ok_l n lv) (hv : okv n v) (he : sto2 lv i v = lv') : ok_l n lv' := fun j w hj => by
  rw [← he] at hj
  rcases sto2_spec lv i v j w hj with ⟨rfl, rfl⟩ | ⟨h1, h1', h2, h3⟩
  · exact hv
  · exact h j w h2
section SR
variable {M : MI} {Qr : (Option Value ⊕ Nat) → Mem → Prop} {cells slots pc : Nat} {lv lv' : List (Option Value)} {st : List Value} {μ : Mem}
theorem S_iconst {n : Int} {v : Int32} (hdg : decode M.cc pc = .ok (.iconst n, 1)) (hv : Int32.ofInt n = v) (k : S M Qr cells slots (pc + 1) lv (.int v :: st) μ) : S M Qr cells slots pc lv st μ := by
  intro cx ad0 n0 p l e s m args below meth c hx d0 ad H locs ls hd he hn hw hS hl ho hs
  exact lv_iconst hx.1 hx.2.1 hdg hv (k cx ad0 n0 p l e s m args below meth c hx d0 ad H locs ls hd he hn hw hS hl ho (ok_c trivial hs))
theorem S_bipush {n : Int} {v : Int32} (hdg : decode M.cc pc = .ok (.bipush n, 2)) (hv : (Int8.ofInt n).toInt32 = v) (k : S M Qr cells slots (pc + 2) lv (.int v :: st) μ) : S M Qr cells slots pc lv st μ := by
  intro cx ad0 n0 p l e s m args below meth c hx d0 ad H locs ls hd he hn hw hS hl ho hs
  exact lv_bipush hx.1 hx.2.1 hdg hv (k cx ad0 n0 p l e s m args below meth c hx d0 ad H locs ls hd he hn hw hS hl ho (ok_c trivial hs))
theorem S_sipush {n : Int} {v : Int32} (hdg : decode M.cc pc = .ok (.sipush n, 3)) (hv : (Int16.ofInt n).toInt32 = v) (k : S M Qr cells slots (pc + 3) lv (.int v :: st) μ) : S M Qr cells slots pc lv st μ := by
  intro cx ad0 n0 p l e s m args below meth c hx d0 ad H locs ls hd he hn hw hS hl ho hs
  exact lv_sipush hx.1 hx.2.1 hdg hv (k cx ad0 n0 p l e s m args below meth c hx d0 ad H locs ls hd he hn hw hS hl ho (ok_c trivial hs))
theorem S_lconst {n : Fin 2} {v : Int64} (hdg : decode M.cc pc = .ok (.lconst n, 1)) (hv : Int64.ofNat (n : Nat) = v) (k : S M Qr cells slots (pc + 1) lv (.long v :: st) μ) : S M Qr cells slots pc lv st μ := by
  intro cx ad0 n0 p l e s m args below meth c hx d0 ad H locs ls hd he hn hw hS hl ho hs
  exact lv_lconst hx.1 hx.2.1 hdg hv (k cx ad0 n0 p l e s m args below meth c hx d0 ad H locs ls hd he hn hw hS hl ho (ok_c trivial hs))
theorem S_fconst0  (hdg : decode M.cc pc = .ok (.fconst 0, 1))  (k : S M Qr cells slots (pc + 1) lv (.float FP.fconst0 :: st) μ) : S M Qr cells slots pc lv st μ := by
  intro cx ad0 n0 p l e s m args below meth c hx d0 ad H locs ls hd he hn hw hS hl ho hs
  exact lv_fconst0 hx.1 hx.2.1 hdg  (k cx ad0 n0 p l e s m args below meth c hx d0 ad H locs ls hd he hn hw hS hl ho (ok_c trivial hs))
theorem S_fconst1  (hdg : decode M.cc pc = .ok (.fconst 1, 1))  (k : S M Qr cells slots (pc + 1) lv (.float FP.fconst1 :: st) μ) : S M Qr cells slots pc lv st μ := by
  intro cx ad0 n0 p l e s m args below meth c hx d0 ad H locs ls hd he hn hw hS hl ho hs
  exact lv_fconst1 hx.1 hx.2.1 hdg  (k cx ad0 n0 p l e s m args below meth c hx d0 ad H locs ls hd he hn hw hS hl ho (ok_c trivial hs))
theorem S_dconst0  (hdg : decode M.cc pc = .ok (.dconst 0, 1))  (k : S M Qr cells slots (pc + 1) lv (.double FP.dconst0 :: st) μ) : S M Qr cells slots pc lv st μ := by
  intro cx ad0 n0 p l e s m args below meth c hx d0 ad H locs ls hd he hn hw hS hl ho hs
  exact lv_dconst0 hx.1 hx.2.1 hdg  (k cx ad0 n0 p l e s m args below meth c hx d0 ad H locs ls hd he hn hw hS hl ho (ok_c trivial hs))
theorem S_iadd {x y : Int32} (hdg : decode M.cc pc = .ok (.iadd, 1))  (k : S M Qr cells slots (pc + 1) lv (.int (x + y) :: st) μ) : S M Qr cells slots pc lv (.int y :: .int x :: st) μ := by
  intro cx ad0 n0 p l e s m args below meth c hx d0 ad H locs ls hd he hn hw hS hl ho hs
  exact lv_iadd hx.1 hx.2.1 hdg  (k cx ad0 n0 p l e s m args below meth c hx d0 ad H locs ls hd he hn hw hS hl ho (ok_c trivial (ok_t2 hs)))
theorem S_isub {x y : Int32} (hdg : decode M.cc pc = .ok (.isub, 1))  (k : S M Qr cells slots (pc + 1) lv (.int (x - y) :: st) μ) : S M Qr cells slots pc lv (.int y :: .int x :: st) μ := by
  intro cx ad0 n0 p l e s m args below meth c hx d0 ad H locs ls hd he hn hw hS hl ho hs
  exact lv_isub hx.1 hx.2.1 hdg  (k cx ad0 n0 p l e s m args below meth c hx d0 ad H locs ls hd he hn hw hS hl ho (ok_c trivial (ok_t2 hs)))
theorem S_imul {x y : Int32} (hdg : decode M.cc pc = .ok (.imul, 1))  (k : S M Qr cells slots (pc + 1) lv (.int (x * y) :: st) μ) : S M Qr cells slots pc lv (.int y :: .int x :: st) μ := by
  intro cx ad0 n0 p l e s m args below meth c hx d0 ad H locs ls hd he hn hw hS hl ho hs
  exact lv_imul hx.1 hx.2.1 hdg  (k cx ad0 n0 p l e s m args below meth c hx d0 ad H locs ls hd he hn hw hS hl ho (ok_c trivial (ok_t2 hs)))
theorem S_iand {x y : Int32} (hdg : decode M.cc pc = .ok (.iand, 1))  (k : S M Qr cells slots (pc + 1) lv (.int (x &&& y) :: st) μ) : S M Qr cells slots pc lv (.int y :: .int x :: st) μ := by
  intro cx ad0 n0 p l e s m args below meth c hx d0 ad H locs ls hd he hn hw hS hl ho hs
  exact lv_iand hx.1 hx.2.1 hdg  (k cx ad0 n0 p l e s m args below meth c hx d0 ad H locs ls hd he hn hw hS hl ho (ok_c trivial (ok_t2 hs)))
theorem S_ior {x y : Int32} (hdg : decode M.cc pc = .ok (.ior, 1))  (k : S M Qr cells slots (pc + 1) lv (.int (x ||| y) :: st) μ) : S M Qr cells slots pc lv (.int y :: .int x :: st) μ := by
  intro cx ad0 n0 p l e s m args below meth c hx d0 ad H locs ls hd he hn hw hS hl ho hs
  exact lv_ior hx.1 hx.2.1 hdg  (k cx ad0 n0 p l e s m args below meth c hx d0 ad H locs ls hd he hn hw hS hl ho (ok_c trivial (ok_t2 hs)))
theorem S_ishl {x y : Int32} (hdg : decode M.cc pc = .ok (.ishl, 1))  (k : S M Qr cells slots (pc + 1) lv (.int (x <<< (y &&& 31)) :: st) μ) : S M Qr cells slots pc lv (.int y :: .int x :: st) μ := by
  intro cx ad0 n0 p l e s m args below meth c hx d0 ad H locs ls hd he hn hw hS hl ho hs
  exact lv_ishl hx.1 hx.2.1 hdg  (k cx ad0 n0 p l e s m args below meth c hx d0 ad H locs ls hd he hn hw hS hl ho (ok_c trivial (ok_t2 hs)))
theorem S_ishr {x y : Int32} (hdg : decode M.cc pc = .ok (.ishr, 1))  (k : S M Qr cells slots (pc + 1) lv (.int (x >>> (y &&& 31)) :: st) μ) : S M Qr cells slots pc lv (.int y :: .int x :: st) μ := by
  intro cx ad0 n0 p l e s m args below meth c hx d0 ad H locs ls hd he hn hw hS hl ho hs
  exact lv_ishr hx.1 hx.2.1 hdg  (k cx ad0 n0 p l e s m args below meth c hx d0 ad H locs ls hd he hn hw hS hl ho (ok_c trivial (ok_t2 hs)))
theorem S_iushr {x y : Int32} (hdg : decode M.cc pc = .ok (.iushr, 1))  (k : S M Qr cells slots (pc + 1) lv (.int ((x.toUInt32 >>> (y.toUInt32 &&& Int32.toUInt32 31)).toInt32) :: st) μ) : S M Qr cells slots pc lv (.int y :: .int x :: st) μ := by
  intro cx ad0 n0 p l e s m args below meth c hx d0 ad H locs ls hd he hn hw hS hl ho hs
  exact lv_iushr hx.1 hx.2.1 hdg rfl (k cx ad0 n0 p l e s m args below meth c hx d0 ad H locs ls hd he hn hw hS hl ho (ok_c trivial (ok_t2 hs)))
theorem S_idiv {x y : Int32} (hdg : decode M.cc pc = .ok (.idiv, 1)) (hne : ¬ y = 0) (k : S M Qr cells slots (pc + 1) lv (.int (x / y) :: st) μ) : S M Qr cells slots pc lv (.int y :: .int x :: st) μ := by
  intro cx ad0 n0 p l e s m args below meth c hx d0 ad H locs ls hd he hn hw hS hl ho hs
  exact lv_idiv hx.1 hx.2.1 hdg hne (k cx ad0 n0 p l e s m args below meth c hx d0 ad H locs ls hd he hn hw hS hl ho (ok_c trivial (ok_t2 hs)))
theorem S_irem {x y : Int32} (hdg : decode M.cc pc = .ok (.irem, 1)) (hne : ¬ y = 0) (k : S M Qr cells slots (pc + 1) lv (.int (x - x / y * y) :: st) μ) : S M Qr cells slots pc lv (.int y :: .int x :: st) μ := by
  intro cx ad0 n0 p l e s m args below meth c hx d0 ad H locs ls hd he hn hw hS hl ho hs
  exact lv_irem hx.1 hx.2.1 hdg hne (k cx ad0 n0 p l e s m args below meth c hx d0 ad H locs ls hd he hn hw hS hl ho (ok_c trivial (ok_t2 hs)))
theorem S_ineg {x : Int32} (hdg : decode M.cc pc = .ok (.ineg, 1))  (k : S M Qr cells slots (pc + 1) lv (.int (-x) :: st) μ) : S M Qr cells slots pc lv (.int x :: st) μ := by
  intro cx ad0 n0 p l e s m args below meth c hx d0 ad H locs ls hd he hn hw hS hl ho hs
  exact lv_ineg hx.1 hx.2.1 hdg  (k cx ad0 n0 p l e s m args below meth c hx d0 ad H locs ls hd he hn hw hS hl ho (ok_c trivial (ok_t1 hs)))
theorem S_ladd {x y : Int64} (hdg : decode M.cc pc = .ok (.ladd, 1))  (k : S M Qr cells slots (pc + 1) lv (.long (x + y) :: st) μ) : S M Qr cells slots pc lv (.long y :: .long x :: st) μ := by
  intro cx ad0 n0 p l e s m args below meth c hx d0 ad H locs ls hd he hn hw hS hl ho hs
  exact lv_ladd hx.1 hx.2.1 hdg  (k cx ad0 n0 p l e s m args below meth c hx d0 ad H locs ls hd he hn hw hS hl ho (ok_c trivial (ok_t2 hs)))
theorem S_lsub {x y : Int64} (hdg : decode M.cc pc = .ok (.lsub, 1))  (k : S M Qr cells slots (pc + 1) lv (.long (x - y) :: st) μ) : S M Qr cells slots pc lv (.long y :: .long x :: st) μ := by
  intro cx ad0 n0 p l e s m args below meth c hx d0 ad H locs ls hd he hn hw hS hl ho hs
  exact lv_lsub hx.1 hx.2.1 hdg  (k cx ad0 n0 p l e s m args below meth c hx d0 ad H locs ls hd he hn hw hS hl ho (ok_c trivial (ok_t2 hs)))
theorem S_lmul {x y : Int64} (hdg : decode M.cc pc = .ok (.lmul, 1))  (k : S M Qr cells slots (pc + 1) lv (.long (x * y) :: st) μ) : S M Qr cells slots pc lv (.long y :: .long x :: st) μ := by
  intro cx ad0 n0 p l e s m args below meth c hx d0 ad H locs ls hd he hn hw hS hl ho hs
  exact lv_lmul hx.1 hx.2.1 hdg  (k cx ad0 n0 p l e s m args below meth c hx d0 ad H locs ls hd he hn hw hS hl ho (ok_c trivial (ok_t2 hs)))
theorem S_lor {x y : Int64} (hdg : decode M.cc pc = .ok (.lor, 1))  (k : S M Qr cells slots (pc + 1) lv (.long (x ||| y) :: st) μ) : S M Qr cells slots pc lv (.long y :: .long x :: st) μ := by
  intro cx ad0 n0 p l e s m args below meth c hx d0 ad H locs ls hd he hn hw hS hl ho hs
  exact lv_lor hx.1 hx.2.1 hdg  (k cx ad0 n0 p l e s m args below meth c hx d0 ad H locs ls hd he hn hw hS hl ho (ok_c trivial (ok_t2 hs)))
theorem S_lrem {x y : Int64} (hdg : decode M.cc pc = .ok (.lrem, 1)) (hne : ¬ y = 0) (k : S M Qr cells slots (pc + 1) lv (.long (x - x / y * y) :: st) μ) : S M Qr cells slots pc lv (.long y :: .long x :: st) μ := by
  intro cx ad0 n0 p l e s m args below meth c hx d0 ad H locs ls hd he hn hw hS hl ho hs
  exact lv_lrem hx.1 hx.2.1 hdg hne (k cx ad0 n0 p l e s m args below meth c hx d0 ad H locs ls hd he hn hw hS hl ho (ok_c trivial (ok_t2 hs)))
theorem S_lneg {x : Int64} (hdg : decode M.cc pc = .ok (.lneg, 1))  (k : S M Qr cells slots (pc + 1) lv (.long (-x) :: st) μ) : S M Qr cells slots pc lv (.long x :: st) μ := by
  intro cx ad0 n0 p l e s m args below meth c hx d0 ad H locs ls hd he hn hw hS hl ho hs
  exact lv_lneg hx.1 hx.2.1 hdg  (k cx ad0 n0 p l e s m args below meth c hx d0 ad H locs ls hd he hn hw hS hl ho (ok_c trivial (ok_t1 hs)))
theorem S_lshl {x : Int64} {y : Int32} (hdg : decode M.cc pc = .ok (.lshl, 1))  (k : S M Qr cells slots (pc + 1) lv (.long (x <<< (y.toInt64 &&& 63)) :: st) μ) : S M Qr cells slots pc lv (.int y :: .long x :: st) μ := by
  intro cx ad0 n0 p l e s m args below meth c hx d0 ad H locs ls hd he hn hw hS hl ho hs
  exact lv_lshl hx.1 hx.2.1 hdg rfl (k cx ad0 n0 p l e s m args below meth c hx d0 ad H locs ls hd he hn hw hS hl ho (ok_c trivial (ok_t2 hs)))
theorem S_i2l {x : Int32} (hdg : decode M.cc pc = .ok (.i2l, 1))  (k : S M Qr cells slots (pc + 1) lv (.long x.toInt64 :: st) μ) : S M Qr cells slots pc lv (.int x :: st) μ := by
  intro cx ad0 n0 p l e s m args below meth c hx d0 ad H locs ls hd he hn hw hS hl ho hs
  exact lv_i2l hx.1 hx.2.1 hdg rfl (k cx ad0 n0 p l e s m args below meth c hx d0 ad H locs ls hd he hn hw hS hl ho (ok_c trivial (ok_t1 hs)))
theorem S_l2i {x : Int64} (hdg : decode M.cc pc = .ok (.l2i, 1))  (k : S M Qr cells slots (pc + 1) lv (.int x.toInt32 :: st) μ) : S M Qr cells slots pc lv (.long x :: st) μ := by
  intro cx ad0 n0 p l e s m args below meth c hx d0 ad H locs ls hd he hn hw hS hl ho hs
  exact lv_l2i hx.1 hx.2.1 hdg rfl (k cx ad0 n0 p l e s m args below meth c hx d0 ad H locs ls hd he hn hw hS hl ho (ok_c trivial (ok_t1 hs)))
theorem S_i2c {x : Int32} (hdg : decode M.cc pc = .ok (.i2c, 1))  (k : S M Qr cells slots (pc + 1) lv (.int ((x.toUInt32 % 65536).toInt32) :: st) μ) : S M Qr cells slots pc lv (.int x :: st) μ := by
  intro cx ad0 n0 p l e s m args below meth c hx d0 ad H locs ls hd he hn hw hS hl ho hs
  exact lv_i2c hx.1 hx.2.1 hdg rfl (k cx ad0 n0 p l e s m args below meth c hx d0 ad H locs ls hd he hn hw hS hl ho (ok_c trivial (ok_t1 hs)))
theorem S_i2f {x : Int32} (hdg : decode M.cc pc = .ok (.i2f, 1))  (k : S M Qr cells slots (pc + 1) lv (.float (FP.i2f x) :: st) μ) : S M Qr cells slots pc lv (.int x :: st) μ := by
  intro cx ad0 n0 p l e s m args below meth c hx d0 ad H locs ls hd he hn hw hS hl ho hs
  exact lv_i2f hx.1 hx.2.1 hdg  (k cx ad0 n0 p l e s m args below meth c hx d0 ad H locs ls hd he hn hw hS hl ho (ok_c trivial (ok_t1 hs)))
theorem S_i2d {x : Int32} (hdg : decode M.cc pc = .ok (.i2d, 1))  (k : S M Qr cells slots (pc + 1) lv (.double (FP.i2d x) :: st) μ) : S M Qr cells slots pc lv (.int x :: st) μ := by
  intro cx ad0 n0 p l e s m args below meth c hx d0 ad H locs ls hd he hn hw hS hl ho hs
  exact lv_i2d hx.1 hx.2.1 hdg  (k cx ad0 n0 p l e s m args below meth c hx d0 ad H locs ls hd he hn hw hS hl ho (ok_c trivial (ok_t1 hs)))
theorem S_l2d {x : Int64} (hdg : decode M.cc pc = .ok (.l2d, 1))  (k : S M Qr cells slots (pc + 1) lv (.double (FP.l2d x) :: st) μ) : S M Qr cells slots pc lv (.long x :: st) μ := by
  intro cx ad0 n0 p l e s m args below meth c hx d0 ad H locs ls hd he hn hw hS hl ho hs
  exact lv_l2d hx.1 hx.2.1 hdg  (k cx ad0 n0 p l e s m args below meth c hx d0 ad H locs ls hd he hn hw hS hl ho (ok_c trivial (ok_t1 hs)))
theorem S_lcmp {x y : Int64} (hdg : decode M.cc pc = .ok (.lcmp, 1))  (k : S M Qr cells slots (pc + 1) lv (.int (lg_cmp x y) :: st) μ) : S M Qr cells slots pc lv (.long y :: .long x :: st) μ := by
  intro cx ad0 n0 p l e s m args below meth c hx d0 ad H locs ls hd he hn hw hS hl ho hs
  exact W.lcmp hx.1 hx.2.1 hdg  (k cx ad0 n0 p l e s m args below meth c hx d0 ad H locs ls hd he hn hw hS hl ho (ok_c trivial (ok_t2 hs)))
theorem S_fcmp {x y : UInt32} {op : CmpOp} (hdg : decode M.cc pc = .ok (.fcmp op, 1))  (k : S M Qr cells slots (pc + 1) lv (.int (Op.cmpValue (FP.fcmp x y) op) :: st) μ) : S M Qr cells slots pc lv (.float y :: .float x :: st) μ := by
  intro cx ad0 n0 p l e s m args below meth c hx d0 ad H locs ls hd he hn hw hS hl ho hs
  exact lv_fcmp hx.1 hx.2.1 hdg  (k cx ad0 n0 p l e s m args below meth c hx d0 ad H locs ls hd he hn hw hS hl ho (ok_c trivial (ok_t2 hs)))
theorem S_dcmp {x y : UInt64} {op : CmpOp} (hdg : decode M.cc pc = .ok (.dcmp op, 1))  (k : S M Qr cells slots (pc + 1) lv (.int (Op.cmpValue (FP.dcmp x y) op) :: st) μ) : S M Qr cells slots pc lv (.double y :: .double x :: st) μ := by
  intro cx ad0 n0 p l e s m args below meth c hx d0 ad H locs ls hd he hn hw hS hl ho hs
  exact lv_dcmp hx.1 hx.2.1 hdg  (k cx ad0 n0 p l e s m args below meth c hx d0 ad H locs ls hd he hn hw hS hl ho (ok_c trivial (ok_t2 hs)))
theorem S_null (hdg : decode M.cc pc = .ok (.aconst_null, 1)) (k : S M Qr cells slots (pc + 1) lv (.ref 0 :: st) μ) : S M Qr cells slots pc lv st μ := by
  intro cx ad0 n0 p l e s m args below meth c hx d0 ad H locs ls hd he hn hw hS hl ho hs
  exact lv_null hx.1 hx.2.1 hdg (k cx ad0 n0 p l e s m args below meth c hx d0 ad H locs ls hd he hn hw hS hl ho (ok_c (show 0 < gN μ from Nat.lt_of_lt_of_le (by decide) hw.2.2.2.1) hs))
theorem S_fadd {x y : UInt32} (hdg : decode M.cc pc = .ok (.fadd, 1)) (k : ∀ r : UInt32, alike32 r (FP.fadd x y) = true → S M Qr cells slots (pc + 1) lv (.float r :: st) μ) : S M Qr cells slots pc lv (.float y :: .float x :: st) μ := by
  intro cx ad0 n0 p l e s m args below meth c hx d0 ad H locs ls hd he hn hw hS hl ho hs
  exact lv_fadd_any hd lw_bits hx.1 hx.2.1 hdg fun r d1 hal hd1 => k r hal cx ad0 n0 p l e s m args below meth c hx d1 ad H locs ls hd1 he hn hw hS hl ho (ok_c trivial (ok_t2 hs))
theorem S_fsub {x y : UInt32} (hdg : decode M.cc pc = .ok (.fsub, 1)) (k : ∀ r : UInt32, alike32 r (FP.fsub x y) = true → S M Qr cells slots (pc + 1) lv (.float r :: st) μ) : S M Qr cells slots pc lv (.float y :: .float x :: st) μ := by
  intro cx ad0 n0 p l e s m args below meth c hx d0 ad H locs ls hd he hn hw hS hl ho hs
  exact lv_fsub_any hd lw_bits hx.1 hx.2.1 hdg fun r d1 hal hd1 => k r hal cx ad0 n0 p l e s m args below meth c hx d1 ad H locs ls hd1 he hn hw hS hl ho (ok_c trivial (ok_t2 hs))
theorem S_fmul {x y : UInt32} (hdg : decode M.cc pc = .ok (.fmul, 1)) (k : ∀ r : UInt32, alike32 r (FP.fmul x y) = true → S M Qr cells slots (pc + 1) lv (.float r :: st) μ) : S M Qr cells slots pc lv (.float y :: .float x :: st) μ := by
  intro cx ad0 n0 p l e s m args below meth c hx d0 ad H locs ls hd he hn hw hS hl ho hs
  exact lv_fmul_any hd lw_bits hx.1 hx.2.1 hdg fun r d1 hal hd1 => k r hal cx ad0 n0 p l e s m args below meth c hx d1 ad H locs ls hd1 he hn hw hS hl ho (ok_c trivial (ok_t2 hs))
theorem S_ddiv {x y : UInt64} (hdg : decode M.cc pc = .ok (.ddiv, 1)) (k : ∀ r : UInt64, alike64 r (FP.ddiv x y) = true → S M Qr cells slots (pc + 1) lv (.double r :: st) μ) : S M Qr cells slots pc lv (.double y :: .double x :: st) μ := by
  intro cx ad0 n0 p l e s m args below meth c hx d0 ad H locs ls hd he hn hw hS hl ho hs
  exact lv_ddiv_any hd lw_bits hx.1 hx.2.1 hdg fun r d1 hal hd1 => k r hal cx ad0 n0 p l e s m args below meth c hx d1 ad H locs ls hd1 he hn hw hS hl ho (ok_c trivial (ok_t2 hs))
theorem S_f2d {x : UInt32} (hdg : decode M.cc pc = .ok (.f2d, 1)) (k : ∀ r : UInt64, alike64 r (FP.f2d x) = true → S M Qr cells slots (pc + 1) lv (.double r :: st) μ) : S M Qr cells slots pc lv (.float x :: st) μ := by
  intro cx ad0 n0 p l e s m args below meth c hx d0 ad H locs ls hd he hn hw hS hl ho hs
  exact lv_f2d_any hd lw_bits hx.1 hx.2.1 hdg fun r d1 hal hd1 => k r hal cx ad0 n0 p l e s m args below meth c hx d1 ad H locs ls hd1 he hn hw hS hl ho (ok_c trivial (ok_t1 hs))
theorem S_dup {v : Value} (hdg : decode M.cc pc = .ok (.dup, 1)) (hv : v.category = 1) (k : S M Qr cells slots (pc + 1) lv (v :: v :: st) μ) : S M Qr cells slots pc lv (v :: st) μ := by
  intro cx ad0 n0 p l e s m args below meth c hx d0 ad H locs ls hd he hn hw hS hl ho hs
  exact lv_dup hx.1 hx.2.1 hdg (by rw [cv_cat]; exact hv) (k cx ad0 n0 p l e s m args below meth c hx d0 ad H locs ls hd he hn hw hS hl ho (ok_c (ok_h hs) hs))
theorem S_pop {v : Value} (hdg : decode M.cc pc = .ok (.pop, 1)) (hv : v.category = 1) (k : S M Qr cells slots (pc + 1) lv st μ) : S M Qr cells slots pc lv (v :: st) μ := by
  intro cx ad0 n0 p l e s m args below meth c hx d0 ad H locs ls hd he hn hw hS hl ho hs
  exact lv_pop hx.1 hx.2.1 hdg (by rw [cv_cat]; exact hv) (k cx ad0 n0 p l e s m args below meth c hx d0 ad H locs ls hd he hn hw hS hl ho (ok_t1 hs))
theorem S_dup2 {v w : Value} (hdg : decode M.cc pc = .ok (.dup2, 1)) (hv : v.category = 1) (hw9 : w.category = 1) (k : S M Qr cells slots (pc + 1) lv (v :: w :: v :: w :: st) μ) : S M Qr cells slots pc lv (v :: w :: st) μ := by
  intro cx ad0 n0 p l e s m args below meth c hx d0 ad H locs ls hd he hn hw hS hl ho hs
  exact lv_dup2_11 hx.1 hx.2.1 hdg (by rw [cv_cat]; exact hv) (by rw [cv_cat]; exact hw9) (k cx ad0 n0 p l e s m args below meth c hx d0 ad H locs ls hd he hn hw hS hl ho (ok_c (ok_h hs) (ok_c (ok_h (ok_t1 hs)) hs)))
theorem S_iload_n {k0 : Fin 4} {x : Int32} (hdg : decode M.cc pc = .ok (.iload_n k0, 1)) (hi : lv[(k0 : Nat)]? = some (some (.int x))) (k : S M Qr cells slots (pc + 1) lv (.int x :: st) μ) : S M Qr cells slots pc lv st μ := by
  intro cx ad0 n0 p l e s m args below meth c hx d0 ad H locs ls hd he hn hw hS hl ho hs
  exact lv_iload_n hx.1 hx.2.1 hdg rfl (hl.2.2 _ _ hi) (k cx ad0 n0 p l e s m args below meth c hx d0 ad H locs ls hd he hn hw hS hl ho (ok_c trivial hs))
theorem S_iload {i : Nat} {x : Int32} (hdg : decode M.cc pc = .ok (.iload i, 2)) (hi : lv[i]? = some (some (.int x))) (k : S M Qr cells slots (pc + 2) lv (.int x :: st) μ) : S M Qr cells slots pc lv st μ := by
  intro cx ad0 n0 p l e s m args below meth c hx d0 ad H locs ls hd he hn hw hS hl ho hs
  exact lv_iload hx.1 hx.2.1 hdg (hl.2.2 _ _ hi) (k cx ad0 n0 p l e s m args below meth c hx d0 ad H locs ls hd he hn hw hS hl ho (ok_c trivial hs))
theorem S_lload_n {k0 : Fin 4} {x : Int64} (hdg : decode M.cc pc = .ok (.lload_n k0, 1)) (hi : lv[(k0 : Nat)]? = some (some (.long x))) (k : S M Qr cells slots (pc + 1) lv (.long x :: st) μ) : S M Qr cells slots pc lv st μ := by
  intro cx ad0 n0 p l e s m args below meth c hx d0 ad H locs ls hd he hn hw hS hl ho hs
  exact lv_lload_n hx.1 hx.2.1 hdg rfl (hl.2.2 _ _ hi) (k cx ad0 n0 p l e s m args below meth c hx d0 ad H locs ls hd he hn hw hS hl ho (ok_c trivial hs))
theorem S_lload {i : Nat} {x : Int64} (hdg : decode M.cc pc = .ok (.lload i, 2)) (hi : lv[i]? = some (some (.long x))) (k : S M Qr cells slots (pc + 2) lv (.long x :: st) μ) : S M Qr cells slots pc lv st μ := by
  intro cx ad0 n0 p l e s m args below meth c hx d0 ad H locs ls hd he hn hw hS hl ho hs
  exact lv_lload hx.1 hx.2.1 hdg (hl.2.2 _ _ hi) (k cx ad0 n0 p l e s m args below meth c hx d0 ad H locs ls hd he hn hw hS hl ho (ok_c trivial hs))
theorem S_fload_n {k0 : Fin 4} {x : UInt32} (hdg : decode M.cc pc = .ok (.fload_n k0, 1)) (hi : lv[(k0 : Nat)]? = some (some (.float x))) (k : S M Qr cells slots (pc + 1) lv (.float x :: st) μ) : S M Qr cells slots pc lv st μ := by
  intro cx ad0 n0 p l e s m args below meth c hx d0 ad H locs ls hd he hn hw hS hl ho hs
  exact lv_fload_n hx.1 hx.2.1 hdg rfl (hl.2.2 _ _ hi) (k cx ad0 n0 p l e s m args below meth c hx d0 ad H locs ls hd he hn hw hS hl ho (ok_c trivial hs))
theorem S_fload {i : Nat} {x : UInt32} (hdg : decode M.cc pc = .ok (.fload i, 2)) (hi : lv[i]? = some (some (.float x))) (k : S M Qr cells slots (pc + 2) lv (.float x :: st) μ) : S M Qr cells slots pc lv st μ := by
  intro cx ad0 n0 p l e s m args below meth c hx d0 ad H locs ls hd he hn hw hS hl ho hs
  exact lv_fload hx.1 hx.2.1 hdg (hl.2.2 _ _ hi) (k cx ad0 n0 p l e s m args below meth c hx d0 ad H locs ls hd he hn hw hS hl ho (ok_c trivial hs))
theorem S_dload_n {k0 : Fin 4} {x : UInt64} (hdg : decode M.cc pc = .ok (.dload_n k0, 1)) (hi : lv[(k0 : Nat)]? = some (some (.double x))) (k : S M Qr cells slots (pc + 1) lv (.double x :: st) μ) : S M Qr cells slots pc lv st μ := by
  intro cx ad0 n0 p l e s m args below meth c hx d0 ad H locs ls hd he hn hw hS hl ho hs
  exact lv_dload_n hx.1 hx.2.1 hdg rfl (hl.2.2 _ _ hi) (k cx ad0 n0 p l e s m args below meth c hx d0 ad H locs ls hd he hn hw hS hl ho (ok_c trivial hs))
theorem S_dload {i : Nat} {x : UInt64} (hdg : decode M.cc pc = .ok (.dload i, 2)) (hi : lv[i]? = some (some (.double x))) (k : S M Qr cells slots (pc + 2) lv (.double x :: st) μ) : S M Qr cells slots pc lv st μ := by
  intro cx ad0 n0 p l e s m args below meth c hx d0 ad H locs ls hd he hn hw hS hl ho hs
  exact lv_dload hx.1 hx.2.1 hdg (hl.2.2 _ _ hi) (k cx ad0 n0 p l e s m args below meth c hx d0 ad H locs ls hd he hn hw hS hl ho (ok_c trivial hs))
theorem S_aload_n {k0 : Fin 4} {x : Nat} (hdg : decode M.cc pc = .ok (.aload_n k0, 1)) (hi : lv[(k0 : Nat)]? = some (some (.ref x))) (k : S M Qr cells slots (pc + 1) lv (.ref x :: st) μ) : S M Qr cells slots pc lv st μ := by
  intro cx ad0 n0 p l e s m args below meth c hx d0 ad H locs ls hd he hn hw hS hl ho hs
  have h1 := hl.2.2 _ _ hi
  have h2 := k cx ad0 n0 p l e s m args below meth c hx d0 ad H locs ls hd he hn hw hS hl ho (ok_c (ho _ _ hi) hs)
  by_cases h0 : x = 0
  · subst h0; exact lv_aload_nN hx.1 hx.2.1 hdg rfl h1 h2
  · simp only [List.map_cons, cv, cv_r, if_neg h0] at h1 h2
    exact lv_aload_n hx.1 hx.2.1 hdg rfl h1 h2
theorem S_aload {i x : Nat} (hdg : decode M.cc pc = .ok (.aload i, 2)) (hi : lv[i]? = some (some (.ref x))) (k : S M Qr cells slots (pc + 2) lv (.ref x :: st) μ) : S M Qr cells slots pc lv st μ := by
  intro cx ad0 n0 p l e s m args below meth c hx d0 ad H locs ls hd he hn hw hS hl ho hs
  have h1 := hl.2.2 _ _ hi
  have h2 := k cx ad0 n0 p l e s m args below meth c hx d0 ad H locs ls hd he hn hw hS hl ho (ok_c (ho _ _ hi) hs)
  by_cases h0 : x = 0
  · subst h0; exact lv_aloadN hx.1 hx.2.1 hdg h1 h2
  · simp only [List.map_cons, cv, cv_r, if_neg h0] at h1 h2
    exact lv_aload hx.1 hx.2.1 hdg h1 h2
theorem S_istore_n {k0 : Fin 4} {i : Nat} {x : Int32} (hdg : decode M.cc pc = .ok (.istore_n k0, 1)) (hk : (k0 : Nat) = i) (hb : i < M.n) (hv : sto1 lv i (.int x) = lv') (k : S M Qr cells slots (pc + 1) lv' st μ) : S M Qr cells slots pc lv (.int x :: st) μ := by
  intro cx ad0 n0 p l e s m args below meth c hx d0 ad H locs ls hd he hn hw hS hl ho hs
  exact lv_istore_n hx.1 hx.2.1 hdg hk hl.to hb rfl fun ls9 hl9 => k cx ad0 n0 p l e s m args below meth c hx d0 ad H locs ls9 hd he hn hw hS (hl.st1 hv hl9) (ok_l1 ho (ok_h hs) hv) (ok_t1 hs)
theorem S_istore {i : Nat} {x : Int32} (hdg : decode M.cc pc = .ok (.istore i, 2)) (hb : i < M.n) (hv : sto1 lv i (.int x) = lv') (k : S M Qr cells slots (pc + 2) lv' st μ) : S M Qr cells slots pc lv (.int x :: st) μ := by
  intro cx ad0 n0 p l e s m args below meth c hx d0 ad H locs ls hd he hn hw hS hl ho hs
  exact lv_istore hx.1 hx.2.1 hdg hl.to hb rfl fun ls9 hl9 => k cx ad0 n0 p l e s m args below meth c hx d0 ad H locs ls9 hd he hn hw hS (hl.st1 hv hl9) (ok_l1 ho (ok_h hs) hv) (ok_t1 hs)
theorem S_fstore_n {k0 : Fin 4} {i : Nat} {x : UInt32} (hdg : decode M.cc pc = .ok (.fstore_n k0, 1)) (hk : (k0 : Nat) = i) (hb : i < M.n) (hv : sto1 lv i (.float x) = lv') (k : S M Qr cells slots (pc + 1) lv' st μ) : S M Qr cells slots pc lv (.float x :: st) μ := by
  intro cx ad0 n0 p l e s m args below meth c hx d0 ad H locs ls hd he hn hw hS hl ho hs
  exact lv_fstore_n hx.1 hx.2.1 hdg hk hl.to hb rfl fun ls9 hl9 => k cx ad0 n0 p l e s m args below meth c hx d0 ad H locs ls9 hd he hn hw hS (hl.st1 hv hl9) (ok_l1 ho (ok_h hs) hv) (ok_t1 hs)
theorem S_fstore {i : Nat} {x : UInt32} (hdg : decode M.cc pc = .ok (.fstore i, 2)) (hb : i < M.n) (hv : sto1 lv i (.float x) = lv') (k : S M Qr cells slots (pc + 2) lv' st μ) : S M Qr cells slots pc lv (.float x :: st) μ := by
  intro cx ad0 n0 p l e s m args below meth c hx d0 ad H locs ls hd he hn hw hS hl ho hs
  exact lv_fstore hx.1 hx.2.1 hdg hl.to hb rfl fun ls9 hl9 => k cx ad0 n0 p l e s m args below meth c hx d0 ad H locs ls9 hd he hn hw hS (hl.st1 hv hl9) (ok_l1 ho (ok_h hs) hv) (ok_t1 hs)
theorem S_lstore_n {k0 : Fin 4} {i : Nat} {x : Int64} (hdg : decode M.cc pc = .ok (.lstore_n k0, 1)) (hk : (k0 : Nat) = i) (hb : i + 1 < M.n) (hv : sto2 lv i (.long x) = lv') (k : S M Qr cells slots (pc + 1) lv' st μ) : S M Qr cells slots pc lv (.long x :: st) μ := by
  intro cx ad0 n0 p l e s m args below meth c hx d0 ad H locs ls hd he hn hw hS hl ho hs
  exact lv_lstore_n hx.1 hx.2.1 hdg hk hl.to hb rfl fun ls9 hl9 => k cx ad0 n0 p l e s m args below meth c hx d0 ad H locs ls9 hd he hn hw hS (hl.st2 hv hl9) (ok_l2 ho (ok_h hs) hv) (ok_t1 hs)
theorem S_lstore {i : Nat} {x : Int64} (hdg : decode M.cc pc = .ok (.lstore i, 2)) (hb : i + 1 < M.n) (hv : sto2 lv i (.long x) = lv') (k : S M Qr cells slots (pc + 2) lv' st μ) : S M Qr cells slots pc lv (.long x :: st) μ := by
  intro cx ad0 n0 p l e s m args below meth c hx d0 ad H locs ls hd he hn hw hS hl ho hs
  exact lv_lstore hx.1 hx.2.1 hdg hl.to hb rfl fun ls9 hl9 => k cx ad0 n0 p l e s m args below meth c hx d0 ad H locs ls9 hd he hn hw hS (hl.st2 hv hl9) (ok_l2 ho (ok_h hs) hv) (ok_t1 hs)
theorem S_dstore {i : Nat} {x : UInt64} (hdg : decode M.cc pc = .ok (.dstore i, 2)) (hb : i + 1 < M.n) (hv : sto2 lv i (.double x) = lv') (k : S M Qr cells slots (pc + 2) lv' st μ) : S M Qr cells slots pc lv (.double x :: st) μ := by
  intro cx ad0 n0 p l e s m args below meth c hx d0 ad H locs ls hd he hn hw hS hl ho hs
  exact lv_dstore hx.1 hx.2.1 hdg hl.to hb rfl fun ls9 hl9 => k cx ad0 n0 p l e s m args below meth c hx d0 ad H locs ls9 hd he hn hw hS (hl.st2 hv hl9) (ok_l2 ho (ok_h hs) hv) (ok_t1 hs)
theorem S_astore_n {k0 : Fin 4} {i x : Nat} (hdg : decode M.cc pc = .ok (.astore_n k0, 1)) (hk : (k0 : Nat) = i) (hb : i < M.n) (hv : sto1 lv i (.ref x) = lv') (k : S M Qr cells slots (pc + 1) lv' st μ) : S M Qr cells slots pc lv (.ref x :: st) μ := by
  intro cx ad0 n0 p l e s m args below meth c hx d0 ad H locs ls hd he hn hw hS hl ho hs
  by_cases h0 : x = 0
  · subst h0
    exact lv_astore_nN hx.1 hx.2.1 hdg hk hl.to hb rfl fun ls9 hl9 => k cx ad0 n0 p l e s m args below meth c hx d0 ad H locs ls9 hd he hn hw hS (hl.st1 hv hl9) (ok_l1 ho (ok_h hs) hv) (ok_t1 hs)
  · simp only [List.map_cons, cv, cv_r, if_neg h0]
    exact lv_astore_n hx.1 hx.2.1 hdg hk hl.to hb rfl fun ls9 hl9 => k cx ad0 n0 p l e s m args below meth c hx d0 ad H locs ls9 hd he hn hw hS (hl.st1 (v := .ref x) hv (by simpa only [cv, cv_r, if_neg h0] using hl9)) (ok_l1 ho (ok_h hs) hv) (ok_t1 hs)
theorem S_astore {i x : Nat} (hdg : decode M.cc pc = .ok (.astore i, 2)) (hb : i < M.n) (hv : sto1 lv i (.ref x) = lv') (k : S M Qr cells slots (pc + 2) lv' st μ) : S M Qr cells slots pc lv (.ref x :: st) μ := by
  intro cx ad0 n0 p l e s m args below meth c hx d0 ad H locs ls hd he hn hw hS hl ho hs
  by_cases h0 : x = 0
  · subst h0
    exact lv_astoreN hx.1 hx.2.1 hdg hl.to hb rfl fun ls9 hl9 => k cx ad0 n0 p l e s m args below meth c hx d0 ad H locs ls9 hd he hn hw hS (hl.st1 hv hl9) (ok_l1 ho (ok_h hs) hv) (ok_t1 hs)
  · simp only [List.map_cons, cv, cv_r, if_neg h0]
    exact lv_astore hx.1 hx.2.1 hdg hl.to hb rfl fun ls9 hl9 => k cx ad0 n0 p l e s m args below meth c hx d0 ad H locs ls9 hd he hn hw hS (hl.st1 (v := .ref x) hv (by simpa only [cv, cv_r, if_neg h0] using hl9)) (ok_l1 ho (ok_h hs) hv) (ok_t1 hs)
theorem S_iinc {i : Nat} {n : Int} {x v : Int32} (hdg : decode M.cc pc = .ok (.iinc i n, 3)) (hi : lv[i]? = some (some (.int x))) (hb : i < M.n) (hv9 : x + Int32.ofInt n = v) (hv : sto1 lv i (.int v) = lv') (k : S M Qr cells slots (pc + 3) lv' st μ) : S M Qr cells slots pc lv st μ := by
  intro cx ad0 n0 p l e s m args below meth c hx d0 ad H locs ls hd he hn hw hS hl ho hs
  have hl2 := hl.to
  obtain ⟨k9, hk9⟩ : ∃ k9 : Nat, ((List.range lv.length).filterMap fun i => (lv[i]?.join).map fun v => (i, cv ad v))[k9]? = some (i, .int x) := by
    have : (i, Value.int x) ∈ ((List.range lv.length).filterMap fun i => (lv[i]?.join).map fun v => (i, cv ad v)) := by
      refine List.mem_filterMap.mpr ⟨i, ?_, by rw [hi]; rfl⟩
      rw [List.mem_range]
      exact (List.getElem?_eq_some_iff.mp hi).1
    exact List.getElem?_of_mem this
  exact lv_iinc hx.1 hx.2.1 hdg hl2 hk9 hv9 hb rfl fun ls9 hl9 => k cx ad0 n0 p l e s m args below meth c hx d0 ad H locs ls9 hd he hn hw hS (hl.st1 (v := .int v) hv hl9) (ok_l1 (v := .int v) ho trivial hv) hs
-- IFROWS
theorem S_if_eq {x : Int32} {off : Int} {tgt : Nat} (hdg : decode M.cc pc = .ok (.ifCond .eq off, 3)) (ht : (pc : Int) + off = (tgt : Int)) (kt : x = 0 → S M Qr cells slots tgt lv st μ) (kf : ¬ (x = 0) → S M Qr cells slots (pc + 3) lv st μ) : S M Qr cells slots pc lv (.int x :: st) μ := by
  intro cx ad0 n0 p l e s m args below meth c hx d0 ad H locs ls hd he hn hw hS hl ho hs
  exact lv_if_eq hx.1 hx.2.1 hdg ht (fun h => kt h cx ad0 n0 p l e s m args below meth c hx d0 ad H locs ls hd he hn hw hS hl ho (ok_t1 hs)) (fun h => kf h cx ad0 n0 p l e s m args below meth c hx d0 ad H locs ls hd he hn hw hS hl ho (ok_t1 hs))
theorem S_icmp_eq {x y : Int32} {off : Int} {tgt : Nat} (hdg : decode M.cc pc = .ok (.if_icmp .eq off, 3)) (ht : (pc : Int) + off = (tgt : Int)) (kt : x = y → S M Qr cells slots tgt lv st μ) (kf : ¬ (x = y) → S M Qr cells slots (pc + 3) lv st μ) : S M Qr cells slots pc lv (.int y :: .int x :: st) μ := by
  intro cx ad0 n0 p l e s m args below meth c hx d0 ad H locs ls hd he hn hw hS hl ho hs
  exact lv_icmp_eq hx.1 hx.2.1 hdg ht (fun h => kt h cx ad0 n0 p l e s m args below meth c hx d0 ad H locs ls hd he hn hw hS hl ho (ok_t2 hs)) (fun h => kf h cx ad0 n0 p l e s m args below meth c hx d0 ad H locs ls hd he hn hw hS hl ho (ok_t2 hs))
theorem S_if_ne {x : Int32} {off : Int} {tgt : Nat} (hdg : decode M.cc pc = .ok (.ifCond .ne off, 3)) (ht : (pc : Int) + off = (tgt : Int)) (kt : ¬ x = 0 → S M Qr cells slots tgt lv st μ) (kf : x = 0 → S M Qr cells slots (pc + 3) lv st μ) : S M Qr cells slots pc lv (.int x :: st) μ := by
  intro cx ad0 n0 p l e s m args below meth c hx d0 ad H locs ls hd he hn hw hS hl ho hs
  exact lv_if_ne hx.1 hx.2.1 hdg ht (fun h => kt h cx ad0 n0 p l e s m args below meth c hx d0 ad H locs ls hd he hn hw hS hl ho (ok_t1 hs)) (fun h => kf h cx ad0 n0 p l e s m args below meth c hx d0 ad H locs ls hd he hn hw hS hl ho (ok_t1 hs))
theorem S_icmp_ne {x y : Int32} {off : Int} {tgt : Nat} (hdg : decode M.cc pc = .ok (.if_icmp .ne off, 3)) (ht : (pc : Int) + off = (tgt : Int)) (kt : ¬ x = y → S M Qr cells slots tgt lv st μ) (kf : x = y → S M Qr cells slots (pc + 3) lv st μ) : S M Qr cells slots pc lv (.int y :: .int x :: st) μ := by
  intro cx ad0 n0 p l e s m args below meth c hx d0 ad H locs ls hd he hn hw hS hl ho hs
  exact lv_icmp_ne hx.1 hx.2.1 hdg ht (fun h => kt h cx ad0 n0 p l e s m args below meth c hx d0 ad H locs ls hd he hn hw hS hl ho (ok_t2 hs)) (fun h => kf h cx ad0 n0 p l e s m args below meth c hx d0 ad H locs ls hd he hn hw hS hl ho (ok_t2 hs))
theorem S_if_lt {x : Int32} {off : Int} {tgt : Nat} (hdg : decode M.cc pc = .ok (.ifCond .lt off, 3)) (ht : (pc : Int) + off = (tgt : Int)) (kt : x < 0 → S M Qr cells slots tgt lv st μ) (kf : ¬ (x < 0) → S M Qr cells slots (pc + 3) lv st μ) : S M Qr cells slots pc lv (.int x :: st) μ := by
  intro cx ad0 n0 p l e s m args below meth c hx d0 ad H locs ls hd he hn hw hS hl ho hs
  exact lv_if_lt hx.1 hx.2.1 hdg ht (fun h => kt h cx ad0 n0 p l e s m args below meth c hx d0 ad H locs ls hd he hn hw hS hl ho (ok_t1 hs)) (fun h => kf h cx ad0 n0 p l e s m args below meth c hx d0 ad H locs ls hd he hn hw hS hl ho (ok_t1 hs))
theorem S_icmp_lt {x y : Int32} {off : Int} {tgt : Nat} (hdg : decode M.cc pc = .ok (.if_icmp .lt off, 3)) (ht : (pc : Int) + off = (tgt : Int)) (kt : x < y → S M Qr cells slots tgt lv st μ) (kf : ¬ (x < y) → S M Qr cells slots (pc + 3) lv st μ) : S M Qr cells slots pc lv (.int y :: .int x :: st) μ := by
  intro cx ad0 n0 p l e s m args below meth c hx d0 ad H locs ls hd he hn hw hS hl ho hs
  exact lv_icmp_lt hx.1 hx.2.1 hdg ht (fun h => kt h cx ad0 n0 p l e s m args below meth c hx d0 ad H locs ls hd he hn hw hS hl ho (ok_t2 hs)) (fun h => kf h cx ad0 n0 p l e s m args below meth c hx d0 ad H locs ls hd he hn hw hS hl ho (ok_t2 hs))
theorem S_if_ge {x : Int32} {off : Int} {tgt : Nat} (hdg : decode M.cc pc = .ok (.ifCond .ge off, 3)) (ht : (pc : Int) + off = (tgt : Int)) (kt : 0 ≤ x → S M Qr cells slots tgt lv st μ) (kf : ¬ (0 ≤ x) → S M Qr cells slots (pc + 3) lv st μ) : S M Qr cells slots pc lv (.int x :: st) μ := by
  intro cx ad0 n0 p l e s m args below meth c hx d0 ad H locs ls hd he hn hw hS hl ho hs
  exact lv_if_ge hx.1 hx.2.1 hdg ht (fun h => kt h cx ad0 n0 p l e s m args below meth c hx d0 ad H locs ls hd he hn hw hS hl ho (ok_t1 hs)) (fun h => kf h cx ad0 n0 p l e s m args below meth c hx d0 ad H locs ls hd he hn hw hS hl ho (ok_t1 hs))
theorem S_icmp_ge {x y : Int32} {off : Int} {tgt : Nat} (hdg : decode M.cc pc = .ok (.if_icmp .ge off, 3)) (ht : (pc : Int) + off = (tgt : Int)) (kt : y ≤ x → S M Qr cells slots tgt lv st μ) (kf : ¬ (y ≤ x) → S M Qr cells slots (pc + 3) lv st μ) : S M Qr cells slots pc lv (.int y :: .int x :: st) μ := by
  intro cx ad0 n0 p l e s m args below meth c hx d0 ad H locs ls hd he hn hw hS hl ho hs
  exact lv_icmp_ge hx.1 hx.2.1 hdg ht (fun h => kt h cx ad0 n0 p l e s m args below meth c hx d0 ad H locs ls hd he hn hw hS hl ho (ok_t2 hs)) (fun h => kf h cx ad0 n0 p l e s m args below meth c hx d0 ad H locs ls hd he hn hw hS hl ho (ok_t2 hs))
theorem S_if_gt {x : Int32} {off : Int} {tgt : Nat} (hdg : decode M.cc pc = .ok (.ifCond .gt off, 3)) (ht : (pc : Int) + off = (tgt : Int)) (kt : 0 < x → S M Qr cells slots tgt lv st μ) (kf : ¬ (0 < x) → S M Qr cells slots (pc + 3) lv st μ) : S M Qr cells slots pc lv (.int x :: st) μ := by
  intro cx ad0 n0 p l e s m args below meth c hx d0 ad H locs ls hd he hn hw hS hl ho hs
  exact lv_if_gt hx.1 hx.2.1 hdg ht (fun h => kt h cx ad0 n0 p l e s m args below meth c hx d0 ad H locs ls hd he hn hw hS hl ho (ok_t1 hs)) (fun h => kf h cx ad0 n0 p l e s m args below meth c hx d0 ad H locs ls hd he hn hw hS hl ho (ok_t1 hs))
theorem S_icmp_gt {x y : Int32} {off : Int} {tgt : Nat} (hdg : decode M.cc pc = .ok (.if_icmp .gt off, 3)) (ht : (pc : Int) + off = (tgt : Int)) (kt : y < x → S M Qr cells slots tgt lv st μ) (kf : ¬ (y < x) → S M Qr cells slots (pc + 3) lv st μ) : S M Qr cells slots pc lv (.int y :: .int x :: st) μ := by
  intro cx ad0 n0 p l e s m args below meth c hx d0 ad H locs ls hd he hn hw hS hl ho hs
  exact lv_icmp_gt hx.1 hx.2.1 hdg ht (fun h => kt h cx ad0 n0 p l e s m args below meth c hx d0 ad H locs ls hd he hn hw hS hl ho (ok_t2 hs)) (fun h => kf h cx ad0 n0 p l e s m args below meth c hx d0 ad H locs ls hd he hn hw hS hl ho (ok_t2 hs))
theorem S_if_le {x : Int32} {off : Int} {tgt : Nat} (hdg : decode M.cc pc = .ok (.ifCond .le off, 3)) (ht : (pc : Int) + off = (tgt : Int)) (kt : x ≤ 0 → S M Qr cells slots tgt lv st μ) (kf : ¬ (x ≤ 0) → S M Qr cells slots (pc + 3) lv st μ) : S M Qr cells slots pc lv (.int x :: st) μ := by
  intro cx ad0 n0 p l e s m args below meth c hx d0 ad H locs ls hd he hn hw hS hl ho hs
  exact lv_if_le hx.1 hx.2.1 hdg ht (fun h => kt h cx ad0 n0 p l e s m args below meth c hx d0 ad H locs ls hd he hn hw hS hl ho (ok_t1 hs)) (fun h => kf h cx ad0 n0 p l e s m args below meth c hx d0 ad H locs ls hd he hn hw hS hl ho (ok_t1 hs))
theorem S_icmp_le {x y : Int32} {off : Int} {tgt : Nat} (hdg : decode M.cc pc = .ok (.if_icmp .le off, 3)) (ht : (pc : Int) + off = (tgt : Int)) (kt : x ≤ y → S M Qr cells slots tgt lv st μ) (kf : ¬ (x ≤ y) → S M Qr cells slots (pc + 3) lv st μ) : S M Qr cells slots pc lv (.int y :: .int x :: st) μ := by
  intro cx ad0 n0 p l e s m args below meth c hx d0 ad H locs ls hd he hn hw hS hl ho hs
  exact lv_icmp_le hx.1 hx.2.1 hdg ht (fun h => kt h cx ad0 n0 p l e s m args below meth c hx d0 ad H locs ls hd he hn hw hS hl ho (ok_t2 hs)) (fun h => kf h cx ad0 n0 p l e s m args below meth c hx d0 ad H locs ls hd he hn hw hS hl ho (ok_t2 hs))
theorem S_goto {off : Int} {tgt : Nat} (hdg : decode M.cc pc = .ok (.goto off, 3)) (ht : (pc : Int) + off = (tgt : Int)) (k : S M Qr cells slots tgt lv st μ) : S M Qr cells slots pc lv st μ := by
  intro cx ad0 n0 p l e s m args below meth c hx d0 ad H locs ls hd he hn hw hS hl ho hs
  exact lv_goto hx.1 hx.2.1 hdg ht (k cx ad0 n0 p l e s m args below meth c hx d0 ad H locs ls hd he hn hw hS hl ho hs)
theorem S_ifnull {x : Nat} {off : Int} {tgt : Nat} (hdg : decode M.cc pc = .ok (.ifnull off, 3)) (ht : (pc : Int) + off = (tgt : Int)) (kt : x = 0 → S M Qr cells slots tgt lv st μ) (kf : ¬ x = 0 → S M Qr cells slots (pc + 3) lv st μ) : S M Qr cells slots pc lv (.ref x :: st) μ := by
  intro cx ad0 n0 p l e s m args below meth c hx d0 ad H locs ls hd he hn hw hS hl ho hs
  by_cases h0 : x = 0
  · have h2 := kt h0 cx ad0 n0 p l e s m args below meth c hx d0 ad H locs ls hd he hn hw hS hl ho (ok_t1 hs)
    subst h0; exact lv_ifnullN hx.1 hx.2.1 hdg ht h2
  · have h2 := kf h0 cx ad0 n0 p l e s m args below meth c hx d0 ad H locs ls hd he hn hw hS hl ho (ok_t1 hs)
    simp only [List.map_cons, cv, cv_r, if_neg h0]
    exact lv_ifnull hx.1 hx.2.1 hdg h2
theorem S_ifnonnull {x : Nat} {off : Int} {tgt : Nat} (hdg : decode M.cc pc = .ok (.ifnonnull off, 3)) (ht : (pc : Int) + off = (tgt : Int)) (kt : ¬ x = 0 → S M Qr cells slots tgt lv st μ) (kf : ¬ ¬ x = 0 → S M Qr cells slots (pc + 3) lv st μ) : S M Qr cells slots pc lv (.ref x :: st) μ := by
  intro cx ad0 n0 p l e s m args below meth c hx d0 ad H locs ls hd he hn hw hS hl ho hs
  by_cases h0 : x = 0
  · have h2 := kf (fun h => h h0) cx ad0 n0 p l e s m args below meth c hx d0 ad H locs ls hd he hn hw hS hl ho (ok_t1 hs)
    subst h0; exact lv_ifnonnullN hx.1 hx.2.1 hdg h2
  · have h2 := kt h0 cx ad0 n0 p l e s m args below meth c hx d0 ad H locs ls hd he hn hw hS hl ho (ok_t1 hs)
    simp only [List.map_cons, cv, cv_r, if_neg h0]
    exact lv_ifnonnull hx.1 hx.2.1 hdg ht h2
/-- a switch: x is the k-th key, or none -/
theorem S_tableIn {dflt lo hi : Int} {offs : Array Int} {len : Nat} {x : Int32} {off : Int} {tgt : Nat} (hdg : decode M.cc pc = .ok (.tableswitch dflt lo hi offs, len)) (h1 : ¬ x.toInt < lo) (h2 : ¬ hi < x.toInt) (ho9 : offs[(x.toInt - lo).toNat]? = some off) (ht : (pc : Int) + off = (tgt : Int)) (k : S M Qr cells slots tgt lv st μ) : S M Qr cells slots pc lv (.int x :: st) μ := by
  intro cx ad0 n0 p l e s m args below meth c hx d0 ad H locs ls hd he hn hw hS hl ho hs
  exact lv_tableIn hx.1 hx.2.1 hdg h1 h2 ho9 ht (k cx ad0 n0 p l e s m args below meth c hx d0 ad H locs ls hd he hn hw hS hl ho (ok_t1 hs))
theorem S_tableOut {dflt lo hi : Int} {offs : Array Int} {len : Nat} {x : Int32} {tgt : Nat} (hdg : decode M.cc pc = .ok (.tableswitch dflt lo hi offs, len)) (h : x.toInt < lo ∨ hi < x.toInt) (ht : (pc : Int) + dflt = (tgt : Int)) (k : S M Qr cells slots tgt lv st μ) : S M Qr cells slots pc lv (.int x :: st) μ := by
  intro cx ad0 n0 p l e s m args below meth c hx d0 ad H locs ls hd he hn hw hS hl ho hs
  exact lv_tableOut hx.1 hx.2.1 hdg h ht (k cx ad0 n0 p l e s m args below meth c hx d0 ad H locs ls hd he hn hw hS hl ho (ok_t1 hs))
theorem S_lookup {dflt : Int} {ps : Array (Int × Int)} {len : Nat} {x : Int32} {off : Int} {tgt : Nat} (hdg : decode M.cc pc = .ok (.lookupswitch dflt ps, len)) (hp : (ps.toList.zip (ps.toList.drop 1)).all (fun (a, next) => a.1 < next.1) = true) (ho9 : Op.lookupswitch.offset ps.toList dflt x.toInt = off) (ht : (pc : Int) + off = (tgt : Int)) (k : S M Qr cells slots tgt lv st μ) : S M Qr cells slots pc lv (.int x :: st) μ := by
  intro cx ad0 n0 p l e s m args below meth c hx d0 ad H locs ls hd he hn hw hS hl ho hs
  exact lv_lookup hx.1 hx.2.1 hdg hp ho9 ht (k cx ad0 n0 p l e s m args below meth c hx d0 ad H locs ls hd he hn hw hS hl ho (ok_t1 hs))
end SR

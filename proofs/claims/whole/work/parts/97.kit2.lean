/-! METHODS THAT DRAW, and the law: their functions say what holds of every end (weakest preconditions over any drawing) -/
abbrev ZT : Type := (Option Value ⊕ Nat) → Mem → Prop
def dl {α : Type} (a : α) (f : α → Prop) : Prop := f a
def da (c : Prop) (k : Prop) : Prop := c ∧ k
def db {α : Type} (x : Option α) (f : α → Prop) : Prop := ∃ q, x = some q ∧ f q
def dp {α : Type} (f : α → Mem → Prop) (q : α × Mem) : Prop := f q.1 q.2
def dps {α : Type} (f : Nat → Mem → Prop) (g : α → Mem → Prop) (q : (Nat ⊕ α) × Mem) : Prop := Sum.elim (fun k => f k q.2) (fun v => g v q.2) q.1
/-- an end: thrown, or a value of one kind -/
def dzr {α : Type} (mk : α → Value) (f : Nat → Mem → Prop) (g : α → Mem → Prop) : ZT := fun o μ => (∃ k, o = .inr k ∧ f k μ) ∨ ∃ v, o = .inl (some (mk v)) ∧ g v μ
def ddr {α : Type} (p : α → Prop) (f : α → Prop) : Prop := ∀ x, p x → f x
theorem ddr_o {α : Type} {p f : α → Prop} (h : ddr p f) (x : α) (hx : p x) : f x := h x hx
def dk (c : Prop) (k : Prop) : Prop := c → k
theorem dk_o {c k : Prop} (h : dk c k) (hc : c) : k := h hc
theorem dl_o {α : Type} {a : α} {f : α → Prop} (h : dl a f) : ∃ x, x = a ∧ f x := ⟨a, rfl, h⟩
theorem da_o {c k : Prop} (h : da c k) : c ∧ k := h
theorem db_o {α : Type} {x : Option α} {f : α → Prop} (h : db x f) : ∃ q, x = some q ∧ f q := h
theorem dbp_o {α : Type} {x : Option (α × Mem)} {f : α → Mem → Prop} (h : db x (dp f)) : ∃ v μ, x = some (v, μ) ∧ f v μ := by
  obtain ⟨q, h1, h2⟩ := h
  exact ⟨q.1, q.2, h1, h2⟩
theorem dbs_o {α : Type} {x : Option ((Nat ⊕ α) × Mem)} {f : Nat → Mem → Prop} {g : α → Mem → Prop} (h : db x (dps f g)) : (∃ k μ, x = some (.inl k, μ) ∧ f k μ) ∨ ∃ v μ, x = some (.inr v, μ) ∧ g v μ := by
  obtain ⟨⟨q, μ⟩, h1, h2⟩ := h
  cases q with
  | inl k => exact Or.inl ⟨k, μ, h1, h2⟩
  | inr v => exact Or.inr ⟨v, μ, h1, h2⟩
theorem dip {c : Prop} [Decidable c] {a b : Prop} (hc : c) (h : if c then a else b) : a := by rw [if_pos hc] at h; exact h
theorem din {c : Prop} [Decidable c] {a b : Prop} (hc : ¬ c) (h : if c then a else b) : b := by rw [if_neg hc] at h; exact h
theorem rle {cc B N k T : Nat} (h : cc ≤ B) (h2 : B + N + k ≤ T) : cc + N + k ≤ T := by omega
theorem rle0 {cc B N T : Nat} (h : cc ≤ B) (h2 : B + N ≤ T) : cc + N ≤ T := by omega
theorem rq {cc N k N' : Nat} (h : N + k = N') : cc + N + k = cc + N' := by omega
section DKit
variable {M K : MI} {Qr : (Option Value ⊕ Nat) → Mem → Prop} {cells slots cells' slots' pc : Nat} {lv : List (Option Value)} {st : List Value} {μ : Mem}
theorem S_evF {x a : UInt32} (e : x = a) (k : S M Qr cells slots pc lv (.float x :: st) μ) : S M Qr cells slots pc lv (.float a :: st) μ := e ▸ k
theorem S_evD {x a : UInt64} (e : x = a) (k : S M Qr cells slots pc lv (.double x :: st) μ) : S M Qr cells slots pc lv (.double a :: st) μ := e ▸ k
theorem S_dV {α : Type} {mk : α → Value} {f : Nat → Mem → Prop} {g : α → Mem → Prop} {args : List Value} {r ci idx N : Nat} {C : String} {T : u_T} (hdg : decode M.cc pc = .ok (.invokevirtual idx, 3)) (hk : gK μ r = ci + 1) (hc : ab_cl[ci]? = some (C, T, N)) (hlk : Cond.methodLink M.own idx K.y ∈ ab_WA) (hin : Cond.instanceMethod K.y ∈ ab_WA) (hse : Cond.selects C K.y K.y ∈ ab_WA) (hlen : (parseMethodDescriptor K.y.desc).map (fun d => d.parameters.length) = some args.length) (ck : CK M K cells slots) (hW : (st.map fun v => v.category).sum ≤ 8)
    (hM : CN K (.ref r :: args) μ (dzr mk f g)) (hc9 : cells + K.rm.cells = cells') (hs9 : slots + K.rm.slots = slots') (kx : ∀ j μ2, f j μ2 → SX M Qr cells' slots' pc lv st μ2 j) (k : ∀ v μ2, g v μ2 → S M Qr cells' slots' (pc + 3) lv (mk v :: st) μ2) : S M Qr cells slots pc lv (args.reverse ++ .ref r :: st) μ := by
  subst hc9; subst hs9
  refine S_callV hdg hk hc hlk hin hse hlen ck hW hM (fun v μ' h => ?_) (fun j μ' h => ?_)
  · rcases h with ⟨j, e, h⟩ | ⟨w, e, h⟩
    · cases e
    · cases e; exact k w μ' h
  · rcases h with ⟨j, e, h⟩ | ⟨w, e, h⟩
    · cases e; exact kx _ μ' h
    · cases e
theorem S_dS {α : Type} {mk : α → Value} {f : Nat → Mem → Prop} {g : α → Mem → Prop} {args : List Value} {idx : Nat} (hdg : decode M.cc pc = .ok (.invokestatic idx, 3)) (hlk : Cond.methodLink M.own idx K.y ∈ ab_WA) (hst : Cond.static K.y ∈ ab_WA) (hlen : (parseMethodDescriptor K.y.desc).map (fun d => d.parameters.length) = some args.length) (ck : CK M K cells slots) (hW : (st.map fun v => v.category).sum ≤ 8)
    (hM : CN K args μ (dzr mk f g)) (hc9 : cells + K.rm.cells = cells') (hs9 : slots + K.rm.slots = slots') (kx : ∀ j μ2, f j μ2 → SX M Qr cells' slots' pc lv st μ2 j) (k : ∀ v μ2, g v μ2 → S M Qr cells' slots' (pc + 3) lv (mk v :: st) μ2) : S M Qr cells slots pc lv (args.reverse ++ st) μ := by
  subst hc9; subst hs9
  refine S_callS hdg hlk hst hlen ck hW hM (fun v μ' h => ?_) (fun j μ' h => ?_)
  · rcases h with ⟨j, e, h⟩ | ⟨w, e, h⟩
    · cases e
    · cases e; exact k w μ' h
  · rcases h with ⟨j, e, h⟩ | ⟨w, e, h⟩
    · cases e; exact kx _ μ' h
    · cases e
/-- no call changes the script -/
def KP (μ μ' : Mem) : Prop := gI μ' 1 = gI μ 1 ∧ gL μ' 1 = gL μ 1
theorem Wd.kp {cx : CX} {ad ad' : Nat → Nat} {μ μ' : Mem} {s s' : State} {H H' : Heap} (h : Wd cx ad μ s H) (h' : Wd cx ad' μ' s' H') : KP μ μ' := ⟨h'.2.2.2.2.2.2.2.1.trans h.2.2.2.2.2.2.2.1.symm, h'.2.2.2.2.2.2.1.trans h.2.2.2.2.2.2.1.symm⟩
theorem CN.keep {M : MI} {args : List Value} {μ : Mem} {Q : (Option Value ⊕ Nat) → Mem → Prop} (h : CN M args μ Q) : CN M args μ (fun o μ' => Q o μ' ∧ KP μ μ') := by
  intro cx ad0 l hl p e ha hc hk s m av below hf happ hP hK
  obtain ⟨n, o, h1, h2, h3, d, hd, h4⟩ := h cx ad0 l hl p e ha hc hk s m av below hf happ hP hK
  refine ⟨n, o, h1, h2, h3, d, hd, ?_⟩
  have hw := hP.2.2.1
  rcases h4 with ⟨⟨μ', ad, ⟨v, e1, e2, e3⟩, e4⟩, e5⟩ | ⟨q, e0, E, ce, L, ⟨μ', ad, ⟨k, e1, e2⟩, e3⟩, e4⟩
  · exact Or.inl ⟨⟨μ', ad, ⟨v, e1, ⟨e2, hw.kp e4.2.2.1⟩, e3⟩, e4⟩, e5⟩
  · exact Or.inr ⟨q, e0, E, ce, L, ⟨μ', ad, ⟨k, e1, e2, hw.kp e3.2.2.1⟩, e3⟩, e4⟩
theorem S_cVk {args : List Value} {r ci idx N : Nat} {C : String} {T : u_T} {o : Option Value} {μ2 : Mem} (hdg : decode M.cc pc = .ok (.invokevirtual idx, 3)) (hk : gK μ r = ci + 1) (hc : ab_cl[ci]? = some (C, T, N)) (hlk : Cond.methodLink M.own idx K.y ∈ ab_WA) (hin : Cond.instanceMethod K.y ∈ ab_WA) (hse : Cond.selects C K.y K.y ∈ ab_WA) (hlen : (parseMethodDescriptor K.y.desc).map (fun d => d.parameters.length) = some args.length) (ck : CK M K cells slots) (hW : (st.map fun v => v.category).sum ≤ 8)
    (hM : CN K (.ref r :: args) μ (OQ (.inl o) μ2)) (hc9 : cells + K.rm.cells = cells') (hs9 : slots + K.rm.slots = slots') (k : KP μ μ2 → S M Qr cells' slots' (pc + 3) lv (o.toList ++ st) μ2) : S M Qr cells slots pc lv (args.reverse ++ .ref r :: st) μ :=
  S_callV hdg hk hc hlk hin hse hlen ck hW hM.keep (fun v μ' h => by obtain ⟨⟨h1, rfl⟩, h2⟩ := h; cases h1; rw [hc9, hs9]; exact k h2) (fun j μ' h => by cases h.1.1)
theorem S_cSk {args : List Value} {idx : Nat} {o : Option Value} {μ2 : Mem} (hdg : decode M.cc pc = .ok (.invokestatic idx, 3)) (hlk : Cond.methodLink M.own idx K.y ∈ ab_WA) (hst : Cond.static K.y ∈ ab_WA) (hlen : (parseMethodDescriptor K.y.desc).map (fun d => d.parameters.length) = some args.length) (ck : CK M K cells slots) (hW : (st.map fun v => v.category).sum ≤ 8)
    (hM : CN K args μ (OQ (.inl o) μ2)) (hc9 : cells + K.rm.cells = cells') (hs9 : slots + K.rm.slots = slots') (k : KP μ μ2 → S M Qr cells' slots' (pc + 3) lv (o.toList ++ st) μ2) : S M Qr cells slots pc lv (args.reverse ++ st) μ :=
  S_callS hdg hlk hst hlen ck hW hM.keep (fun v μ' h => by obtain ⟨⟨h1, rfl⟩, h2⟩ := h; cases h1; rw [hc9, hs9]; exact k h2) (fun j μ' h => by cases h.1.1)
theorem S_cIk {args : List Value} {r idx : Nat} {o : Option Value} {μ2 : Mem} (hdg : decode M.cc pc = .ok (.invokespecial idx, 3)) (hr : 23 ≤ r) (hi : K.y.name = "<init>") (hr0 : K.ret = none) (hh0 : K.hh = []) (hlk : Cond.methodLink M.own idx K.y ∈ ab_WA) (hin : Cond.instanceMethod K.y ∈ ab_WA) (hlen : (parseMethodDescriptor K.y.desc).map (fun d => d.parameters.length) = some args.length) (ck : CK M K cells slots) (hW : (st.map fun v => v.category).sum ≤ 8)
    (hM : CN K (.ref r :: args) μ (OQ (.inl o) μ2)) (hc9 : cells + K.rm.cells = cells') (hs9 : slots + K.rm.slots = slots') (k : KP μ μ2 → S M Qr cells' slots' (pc + 3) lv (o.toList ++ st) μ2) : S M Qr cells slots pc lv (args.reverse ++ .ref r :: st) μ :=
  S_callI hdg hr hi hr0 hh0 hlk hin hlen ck hW hM.keep (fun v μ' h => by obtain ⟨⟨h1, rfl⟩, h2⟩ := h; cases h1; rw [hc9, hs9]; exact k h2) (fun j μ' h => by cases h.1.1)
theorem S_dVk {α : Type} {mk : α → Value} {f : Nat → Mem → Prop} {g : α → Mem → Prop} {args : List Value} {r ci idx N : Nat} {C : String} {T : u_T} (hdg : decode M.cc pc = .ok (.invokevirtual idx, 3)) (hk : gK μ r = ci + 1) (hc : ab_cl[ci]? = some (C, T, N)) (hlk : Cond.methodLink M.own idx K.y ∈ ab_WA) (hin : Cond.instanceMethod K.y ∈ ab_WA) (hse : Cond.selects C K.y K.y ∈ ab_WA) (hlen : (parseMethodDescriptor K.y.desc).map (fun d => d.parameters.length) = some args.length) (ck : CK M K cells slots) (hW : (st.map fun v => v.category).sum ≤ 8)
    (hM : CN K (.ref r :: args) μ (dzr mk f g)) (hc9 : cells + K.rm.cells = cells') (hs9 : slots + K.rm.slots = slots') (kx : ∀ j μ2, f j μ2 → SX M Qr cells' slots' pc lv st μ2 j) (k : ∀ v μ2, g v μ2 → KP μ μ2 → S M Qr cells' slots' (pc + 3) lv (mk v :: st) μ2) : S M Qr cells slots pc lv (args.reverse ++ .ref r :: st) μ := by
  subst hc9; subst hs9
  refine S_callV hdg hk hc hlk hin hse hlen ck hW hM.keep (fun v μ' h => ?_) (fun j μ' h => ?_)
  · rcases h with ⟨⟨j, e, h⟩ | ⟨w, e, h⟩, h2⟩
    · cases e
    · cases e; exact k w μ' h h2
  · rcases h with ⟨⟨j, e, h⟩ | ⟨w, e, h⟩, h2⟩
    · cases e; exact kx _ μ' h
    · cases e
theorem S_dSk {α : Type} {mk : α → Value} {f : Nat → Mem → Prop} {g : α → Mem → Prop} {args : List Value} {idx : Nat} (hdg : decode M.cc pc = .ok (.invokestatic idx, 3)) (hlk : Cond.methodLink M.own idx K.y ∈ ab_WA) (hst : Cond.static K.y ∈ ab_WA) (hlen : (parseMethodDescriptor K.y.desc).map (fun d => d.parameters.length) = some args.length) (ck : CK M K cells slots) (hW : (st.map fun v => v.category).sum ≤ 8)
    (hM : CN K args μ (dzr mk f g)) (hc9 : cells + K.rm.cells = cells') (hs9 : slots + K.rm.slots = slots') (kx : ∀ j μ2, f j μ2 → SX M Qr cells' slots' pc lv st μ2 j) (k : ∀ v μ2, g v μ2 → KP μ μ2 → S M Qr cells' slots' (pc + 3) lv (mk v :: st) μ2) : S M Qr cells slots pc lv (args.reverse ++ st) μ := by
  subst hc9; subst hs9
  refine S_callS hdg hlk hst hlen ck hW hM.keep (fun v μ' h => ?_) (fun j μ' h => ?_)
  · rcases h with ⟨⟨j, e, h⟩ | ⟨w, e, h⟩, h2⟩
    · cases e
    · cases e; exact k w μ' h h2
  · rcases h with ⟨⟨j, e, h⟩ | ⟨w, e, h⟩, h2⟩
    · cases e; exact kx _ μ' h
    · cases e
end DKit

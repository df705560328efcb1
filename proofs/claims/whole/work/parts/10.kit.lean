/-! THE KIT OF THE METHODS: shallow functions and their steps -/
def bl {α β : Type} (a : α) (f : α → Option β) : Option β := f a
def ba {β : Type} (c : Prop) [Decidable c] (k : Option β) : Option β := if c then k else none
def pr {α β : Type} (f : α → Mem → Option β) (q : α × Mem) : Option β := f q.1 q.2
def prs {α β : Type} (f : Nat → Mem → Option β) (g : α → Mem → Option β) (q : (Nat ⊕ α) × Mem) : Option β := Sum.elim (fun k => f k q.2) (fun v => g v q.2) q.1
theorem bl_o {α β : Type} {a : α} {f : α → Option β} {R : Option β} (h : bl a f = R) : ∃ x, x = a ∧ f x = R := ⟨a, rfl, h⟩
theorem ba_o {β : Type} {c : Prop} [Decidable c] {k : Option β} {R : β} (h : ba c k = some R) : c ∧ k = some R := by
  unfold ba at h
  by_cases hc : c
  · rw [if_pos hc] at h; exact ⟨hc, h⟩
  · rw [if_neg hc] at h; cases h
theorem ip {β : Type} {c : Prop} [Decidable c] {a b R : β} (hc : c) (h : (if c then a else b) = R) : a = R := by rw [if_pos hc] at h; exact h
theorem in_ {β : Type} {c : Prop} [Decidable c] {a b R : β} (hc : ¬ c) (h : (if c then a else b) = R) : b = R := by rw [if_neg hc] at h; exact h
theorem bd_o {α β : Type} {x : Option α} {f : α → Option β} {R : β} (h : x.bind f = some R) : ∃ q, x = some q ∧ f q = some R := by
  cases x with
  | none => cases h
  | some q => exact ⟨q, rfl, h⟩
theorem bp_o {α β : Type} {x : Option (α × Mem)} {f : α → Mem → Option β} {R : β} (h : x.bind (pr f) = some R) : ∃ v μ, x = some (v, μ) ∧ f v μ = some R := by
  obtain ⟨q, h1, h2⟩ := bd_o h
  exact ⟨q.1, q.2, h1, h2⟩
theorem bs_o {α β : Type} {x : Option ((Nat ⊕ α) × Mem)} {f : Nat → Mem → Option β} {g : α → Mem → Option β} {R : β} (h : x.bind (prs f g) = some R) : (∃ k μ, x = some (.inl k, μ) ∧ f k μ = some R) ∨ ∃ v μ, x = some (.inr v, μ) ∧ g v μ = some R := by
  obtain ⟨⟨q, μ⟩, h1, h2⟩ := bd_o h
  cases q with
  | inl k => exact Or.inl ⟨k, μ, h1, h2⟩
  | inr v => exact Or.inr ⟨v, μ, h1, h2⟩
/-- the loops' bound -/
def FU : Nat := 1000000000000
def OQ (o : Option Value ⊕ Nat) (μ : Mem) : (Option Value ⊕ Nat) → Mem → Prop := fun o' μ' => o' = o ∧ μ' = μ
def oxI (q : Nat ⊕ Int32) : Option Value ⊕ Nat := Sum.elim .inr (fun v => .inl (some (.int v))) q
def oxJ (q : Nat ⊕ Int64) : Option Value ⊕ Nat := Sum.elim .inr (fun v => .inl (some (.long v))) q
def oxU (q : Nat ⊕ Unit) : Option Value ⊕ Nat := Sum.elim .inr (fun _ => .inl none) q
theorem u_lays_in {C : String} {T : u_T} {N : Nat} (h : (u_ws C T N).all (fun w => decide (w ∈ lw_tbl) && goodWord w) = true) : ∀ w ∈ u_ws C T N, w ∈ ab_WA := fun w hw => by
  have h1 := List.all_eq_true.mp h w hw
  simp only [Bool.and_eq_true, decide_eq_true_eq] at h1
  exact List.mem_filter.mpr h1
theorem hin_0 : ∀ w ∈ u_ws RX1 TX1 9, w ∈ ab_WA := u_lays_in (by decide +kernel)
theorem hin_1 : ∀ w ∈ u_ws RX2 TX2 2, w ∈ ab_WA := u_lays_in (by decide +kernel)
theorem hin_2 : ∀ w ∈ u_ws RX3 TX3 12, w ∈ ab_WA := u_lays_in (by decide +kernel)
theorem hin_3 : ∀ w ∈ u_ws RX4 TX4 3, w ∈ ab_WA := u_lays_in (by decide +kernel)
theorem hin_4 : ∀ w ∈ u_ws RX5 TX5 17, w ∈ ab_WA := u_lays_in (by decide +kernel)
theorem hin_5 : ∀ w ∈ u_ws RX6 TX6 3, w ∈ ab_WA := u_lays_in (by decide +kernel)
theorem hin_6 : ∀ w ∈ u_ws RX8 TX8 5, w ∈ ab_WA := u_lays_in (by decide +kernel)
theorem hin_7 : ∀ w ∈ u_ws RX9 TX9 26, w ∈ ab_WA := u_lays_in (by decide +kernel)
section SKit
variable {M K : MI} {Qr Q : (Option Value ⊕ Nat) → Mem → Prop} {cells slots cells' slots' pc : Nat} {lv lv' : List (Option Value)} {st : List Value} {μ : Mem}
theorem S_ldc2 {idx : Nat} {v : Int64} (hdg : decode M.cc pc = .ok (.ldc2_w idx, 3)) (hc9 : Cond.constantLong M.own idx v ∈ ab_WA) (k : S M Qr cells slots (pc + 3) lv (.long v :: st) μ) : S M Qr cells slots pc lv st μ := by
  intro cx ad0 n0 p l e s m args below meth c hx d0 ad H locs ls hd he hn hw hS hl hol hs
  exact lv_ldc2 hx.1 hx.2.1 (hx.ownd d0) (hx.tsd d0 _ hc9) hdg (k cx ad0 n0 p l e s m args below meth c hx d0 ad H locs ls hd he hn hw hS hl hol (ok_c trivial hs))
theorem S_ldcf {idx : Nat} {v : UInt32} (hdg : decode M.cc pc = .ok (.ldc idx, 2)) (hc9 : Cond.constantFloat M.own idx v ∈ ab_WA) (k : S M Qr cells slots (pc + 2) lv (.float v :: st) μ) : S M Qr cells slots pc lv st μ := by
  intro cx ad0 n0 p l e s m args below meth c hx d0 ad H locs ls hd he hn hw hS hl hol hs
  exact lv_ldcf hx.1 hx.2.1 (hx.ownd d0) (hx.tsd d0 _ hc9) hdg (k cx ad0 n0 p l e s m args below meth c hx d0 ad H locs ls hd he hn hw hS hl hol (ok_c trivial hs))
theorem S_evI {x a : Int32} (e : x = a) (k : S M Qr cells slots pc lv (.int x :: st) μ) : S M Qr cells slots pc lv (.int a :: st) μ := e ▸ k
theorem S_evJ {x a : Int64} (e : x = a) (k : S M Qr cells slots pc lv (.long x :: st) μ) : S M Qr cells slots pc lv (.long a :: st) μ := e ▸ k
theorem S_evR {x a : Nat} (e : x = a) (k : S M Qr cells slots pc lv (.ref x :: st) μ) : S M Qr cells slots pc lv (.ref a :: st) μ := e ▸ k
theorem S_evM {μ' : Mem} (e : μ' = μ) (k : S M Qr cells slots pc lv st μ') : S M Qr cells slots pc lv st μ := e ▸ k
theorem S_gI {ci j idx r N : Nat} {C ref : String} {T : u_T} (hdg : decode M.cc pc = .ok (.getfield idx, 3)) (hk : gK μ r = ci + 1) (hc : ab_cl[ci]? = some (C, T, N)) (hj : j < N) (hin : ∀ w ∈ u_ws C T N, w ∈ ab_WA) (hlink : Cond.fieldLink M.own idx ref (T j).2.1 (T j).2.2.1 ∈ ab_WA) (href : (T j).1 = ref) (hty : ab_ty ci j = .int ∨ ab_ty ci j = .boolean) (k : S M Qr cells slots (pc + 3) lv (.int (gI μ r j) :: st) μ) : S M Qr cells slots pc lv (.ref r :: st) μ :=
  S_getf hdg hk hc hj hin hlink href (by rcases hty with h | h <;> rw [h] <;> exact k)
theorem S_gJ {ci j idx r N : Nat} {C ref : String} {T : u_T} (hdg : decode M.cc pc = .ok (.getfield idx, 3)) (hk : gK μ r = ci + 1) (hc : ab_cl[ci]? = some (C, T, N)) (hj : j < N) (hin : ∀ w ∈ u_ws C T N, w ∈ ab_WA) (hlink : Cond.fieldLink M.own idx ref (T j).2.1 (T j).2.2.1 ∈ ab_WA) (href : (T j).1 = ref) (hty : ab_ty ci j = .long) (k : S M Qr cells slots (pc + 3) lv (.long (gJ μ r j) :: st) μ) : S M Qr cells slots pc lv (.ref r :: st) μ :=
  S_getf hdg hk hc hj hin hlink href (by rw [hty]; exact k)
theorem S_gR {ci j idx r N : Nat} {C ref : String} {T : u_T} (hdg : decode M.cc pc = .ok (.getfield idx, 3)) (hk : gK μ r = ci + 1) (hc : ab_cl[ci]? = some (C, T, N)) (hj : j < N) (hin : ∀ w ∈ u_ws C T N, w ∈ ab_WA) (hlink : Cond.fieldLink M.own idx ref (T j).2.1 (T j).2.2.1 ∈ ab_WA) (href : (T j).1 = ref) (hty : (∃ n, ab_ty ci j = .object n) ∨ ∃ t, ab_ty ci j = .array t) (k : S M Qr cells slots (pc + 3) lv (.ref (gR μ r j) :: st) μ) : S M Qr cells slots pc lv (.ref r :: st) μ :=
  S_getf hdg hk hc hj hin hlink href (by rcases hty with ⟨n, h⟩ | ⟨n, h⟩ <;> rw [h] <;> exact k)
theorem S_gIN {ci j idx r N : Nat} {C ref host : String} {T : u_T} (hdg : decode M.cc pc = .ok (.getfield idx, 3)) (hk : gK μ r = ci + 1) (hc : ab_cl[ci]? = some (C, T, N)) (hj : j < N) (hin : ∀ w ∈ u_ws C T N, w ∈ ab_WA) (hlink : Cond.fieldLinkNest M.own idx ref (T j).2.1 (T j).2.2.1 host ∈ ab_W2) (href : (T j).1 = ref) (hty : ab_ty ci j = .int ∨ ab_ty ci j = .boolean) (k : S M Qr cells slots (pc + 3) lv (.int (gI μ r j) :: st) μ) : S M Qr cells slots pc lv (.ref r :: st) μ :=
  S_getfN hdg hk hc hj hin hlink href (by rcases hty with h | h <;> rw [h] <;> exact k)
theorem S_gJN {ci j idx r N : Nat} {C ref host : String} {T : u_T} (hdg : decode M.cc pc = .ok (.getfield idx, 3)) (hk : gK μ r = ci + 1) (hc : ab_cl[ci]? = some (C, T, N)) (hj : j < N) (hin : ∀ w ∈ u_ws C T N, w ∈ ab_WA) (hlink : Cond.fieldLinkNest M.own idx ref (T j).2.1 (T j).2.2.1 host ∈ ab_W2) (href : (T j).1 = ref) (hty : ab_ty ci j = .long) (k : S M Qr cells slots (pc + 3) lv (.long (gJ μ r j) :: st) μ) : S M Qr cells slots pc lv (.ref r :: st) μ :=
  S_getfN hdg hk hc hj hin hlink href (by rw [hty]; exact k)
theorem S_gRN {ci j idx r N : Nat} {C ref host : String} {T : u_T} (hdg : decode M.cc pc = .ok (.getfield idx, 3)) (hk : gK μ r = ci + 1) (hc : ab_cl[ci]? = some (C, T, N)) (hj : j < N) (hin : ∀ w ∈ u_ws C T N, w ∈ ab_WA) (hlink : Cond.fieldLinkNest M.own idx ref (T j).2.1 (T j).2.2.1 host ∈ ab_W2) (href : (T j).1 = ref) (hty : (∃ n, ab_ty ci j = .object n) ∨ ∃ t, ab_ty ci j = .array t) (k : S M Qr cells slots (pc + 3) lv (.ref (gR μ r j) :: st) μ) : S M Qr cells slots pc lv (.ref r :: st) μ :=
  S_getfN hdg hk hc hj hin hlink href (by rcases hty with ⟨n, h⟩ | ⟨n, h⟩ <;> rw [h] <;> exact k)
/-- what of a callee does not hang on its caller -/
def KW (K : MI) : Prop := ab_code K.y K.cc K.n K.ret K.hh ∈ ab_WA ∧ Cond.initialized K.y.cls ∈ ab_WA ∧ notMH K.y
theorem KW.ck {n L C W : Nat} (h : KW K) (h1 : K.rm.frames + 1 ≤ M.rm.frames) (h2 : 8 + (K.n + 11) + K.rm.locals ≤ M.rm.locals) (h3 : cells + K.rm.cells ≤ M.rm.cells) (h4 : slots + K.rm.slots ≤ M.rm.slots) : CK M K cells slots := ⟨h, h1, h2, h3, h4⟩
theorem S_cV {args : List Value} {r ci idx N : Nat} {C : String} {T : u_T} {o : Option Value} {μ2 : Mem} (hdg : decode M.cc pc = .ok (.invokevirtual idx, 3)) (hk : gK μ r = ci + 1) (hc : ab_cl[ci]? = some (C, T, N)) (hlk : Cond.methodLink M.own idx K.y ∈ ab_WA) (hin : Cond.instanceMethod K.y ∈ ab_WA) (hse : Cond.selects C K.y K.y ∈ ab_WA) (hlen : (parseMethodDescriptor K.y.desc).map (fun d => d.parameters.length) = some args.length) (ck : CK M K cells slots) (hW : (st.map fun v => v.category).sum ≤ 8)
    (hM : CN K (.ref r :: args) μ (OQ (.inl o) μ2)) (hc9 : cells + K.rm.cells = cells') (hs9 : slots + K.rm.slots = slots') (k : S M Qr cells' slots' (pc + 3) lv (o.toList ++ st) μ2) : S M Qr cells slots pc lv (args.reverse ++ .ref r :: st) μ :=
  S_callV hdg hk hc hlk hin hse hlen ck hW hM (fun v μ' h => by obtain ⟨h1, rfl⟩ := h; cases h1; rw [hc9, hs9]; exact k) (fun j μ' h => by cases h.1)
theorem S_cVx {args : List Value} {r ci idx N j : Nat} {C : String} {T : u_T} {μ2 : Mem} (hdg : decode M.cc pc = .ok (.invokevirtual idx, 3)) (hk : gK μ r = ci + 1) (hc : ab_cl[ci]? = some (C, T, N)) (hlk : Cond.methodLink M.own idx K.y ∈ ab_WA) (hin : Cond.instanceMethod K.y ∈ ab_WA) (hse : Cond.selects C K.y K.y ∈ ab_WA) (hlen : (parseMethodDescriptor K.y.desc).map (fun d => d.parameters.length) = some args.length) (ck : CK M K cells slots) (hW : (st.map fun v => v.category).sum ≤ 8)
    (hM : CN K (.ref r :: args) μ (OQ (.inr j) μ2)) (hc9 : cells + K.rm.cells = cells') (hs9 : slots + K.rm.slots = slots') (k : SX M Qr cells' slots' pc lv st μ2 j) : S M Qr cells slots pc lv (args.reverse ++ .ref r :: st) μ :=
  S_callV hdg hk hc hlk hin hse hlen ck hW hM (fun v μ' h => by cases h.1) (fun i μ' h => by obtain ⟨h1, rfl⟩ := h; cases h1; rw [hc9, hs9]; exact k)
theorem S_cS {args : List Value} {idx : Nat} {o : Option Value} {μ2 : Mem} (hdg : decode M.cc pc = .ok (.invokestatic idx, 3)) (hlk : Cond.methodLink M.own idx K.y ∈ ab_WA) (hst : Cond.static K.y ∈ ab_WA) (hlen : (parseMethodDescriptor K.y.desc).map (fun d => d.parameters.length) = some args.length) (ck : CK M K cells slots) (hW : (st.map fun v => v.category).sum ≤ 8)
    (hM : CN K args μ (OQ (.inl o) μ2)) (hc9 : cells + K.rm.cells = cells') (hs9 : slots + K.rm.slots = slots') (k : S M Qr cells' slots' (pc + 3) lv (o.toList ++ st) μ2) : S M Qr cells slots pc lv (args.reverse ++ st) μ :=
  S_callS hdg hlk hst hlen ck hW hM (fun v μ' h => by obtain ⟨h1, rfl⟩ := h; cases h1; rw [hc9, hs9]; exact k) (fun j μ' h => by cases h.1)
theorem S_cSx {args : List Value} {idx j : Nat} {μ2 : Mem} (hdg : decode M.cc pc = .ok (.invokestatic idx, 3)) (hlk : Cond.methodLink M.own idx K.y ∈ ab_WA) (hst : Cond.static K.y ∈ ab_WA) (hlen : (parseMethodDescriptor K.y.desc).map (fun d => d.parameters.length) = some args.length) (ck : CK M K cells slots) (hW : (st.map fun v => v.category).sum ≤ 8)
    (hM : CN K args μ (OQ (.inr j) μ2)) (hc9 : cells + K.rm.cells = cells') (hs9 : slots + K.rm.slots = slots') (k : SX M Qr cells' slots' pc lv st μ2 j) : S M Qr cells slots pc lv (args.reverse ++ st) μ :=
  S_callS hdg hlk hst hlen ck hW hM (fun v μ' h => by cases h.1) (fun i μ' h => by obtain ⟨h1, rfl⟩ := h; cases h1; rw [hc9, hs9]; exact k)
theorem S_cI {args : List Value} {r idx : Nat} {o : Option Value} {μ2 : Mem} (hdg : decode M.cc pc = .ok (.invokespecial idx, 3)) (hr : 23 ≤ r) (hi : K.y.name = "<init>") (hr0 : K.ret = none) (hh0 : K.hh = []) (hlk : Cond.methodLink M.own idx K.y ∈ ab_WA) (hin : Cond.instanceMethod K.y ∈ ab_WA) (hlen : (parseMethodDescriptor K.y.desc).map (fun d => d.parameters.length) = some args.length) (ck : CK M K cells slots) (hW : (st.map fun v => v.category).sum ≤ 8)
    (hM : CN K (.ref r :: args) μ (OQ (.inl o) μ2)) (hc9 : cells + K.rm.cells = cells') (hs9 : slots + K.rm.slots = slots') (k : S M Qr cells' slots' (pc + 3) lv (o.toList ++ st) μ2) : S M Qr cells slots pc lv (args.reverse ++ .ref r :: st) μ :=
  S_callI hdg hr hi hr0 hh0 hlk hin hlen ck hW hM (fun v μ' h => by obtain ⟨h1, rfl⟩ := h; cases h1; rw [hc9, hs9]; exact k) (fun j μ' h => by cases h.1)
theorem S_cIN {args : List Value} {r idx : Nat} {host : String} {o : Option Value} {μ2 : Mem} (hdg : decode M.cc pc = .ok (.invokespecial idx, 3)) (hr : 23 ≤ r) (hi : K.y.name = "<init>") (hr0 : K.ret = none) (hh0 : K.hh = []) (hlk : Cond.methodLinkNest M.own idx K.y host ∈ ab_W2) (hin : Cond.instanceMethod K.y ∈ ab_WA) (hlen : (parseMethodDescriptor K.y.desc).map (fun d => d.parameters.length) = some args.length) (ck : CK M K cells slots) (hW : (st.map fun v => v.category).sum ≤ 8)
    (hM : CN K (.ref r :: args) μ (OQ (.inl o) μ2)) (hc9 : cells + K.rm.cells = cells') (hs9 : slots + K.rm.slots = slots') (k : S M Qr cells' slots' (pc + 3) lv (o.toList ++ st) μ2) : S M Qr cells slots pc lv (args.reverse ++ .ref r :: st) μ :=
  S_callIN hdg hr hi hr0 hh0 hlk hin hlen ck hW hM (fun v μ' h => by obtain ⟨h1, rfl⟩ := h; cases h1; rw [hc9, hs9]; exact k) (fun j μ' h => by cases h.1)
theorem S_cK {args : List Value} {idx : Nat} {o : Option Value} {μ2 : Mem} (hdg : decode M.cc pc = .ok (.invokevirtual idx, 3)) (hlk : Cond.methodLink M.own idx K.y ∈ ab_WA) (hin : Cond.instanceMethod K.y ∈ ab_WA) (hse : Cond.selects "java/lang/String" K.y K.y ∈ ab_WA) (hlen : (parseMethodDescriptor K.y.desc).map (fun d => d.parameters.length) = some args.length) (ck : CK M K cells slots) (hW : (st.map fun v => v.category).sum ≤ 8)
    (hM : CN K (.ref 20 :: args) μ (OQ (.inl o) μ2)) (hc9 : cells + K.rm.cells = cells') (hs9 : slots + K.rm.slots = slots') (k : S M Qr cells' slots' (pc + 3) lv (o.toList ++ st) μ2) : S M Qr cells slots pc lv (args.reverse ++ .ref 20 :: st) μ :=
  S_callK hdg hlk hin hse hlen ck hW hM (fun v μ' h => by obtain ⟨h1, rfl⟩ := h; cases h1; rw [hc9, hs9]; exact k) (fun j μ' h => by cases h.1)
theorem S_cO {i r idx : Nat} {o : Option Value} {μ2 : Mem} (hr : r = 2 + i) (hi : i < 16) (hKy : K.y = ⟨"java/lang/Enum", "ordinal", "()I"⟩) (hhh : K.hh = []) (hdg : decode M.cc pc = .ok (.invokevirtual idx, 3)) (hlk : Cond.methodLink M.own idx ⟨RX7, "ordinal", "()I"⟩ ∈ ab_WA) (hsm : Cond.sameMethod RX7 "java/lang/Enum" "ordinal" "()I" ∈ ab_WA) (hin : Cond.instanceMethod K.y ∈ ab_WA) (hse : Cond.selects RX7 ⟨RX7, "ordinal", "()I"⟩ K.y ∈ ab_WA) (ck : CK M K cells slots) (hW : (st.map fun v => v.category).sum ≤ 8)
    (hM : CN K [.ref r] μ (OQ (.inl o) μ2)) (hc9 : cells + K.rm.cells = cells') (hs9 : slots + K.rm.slots = slots') (k : S M Qr cells' slots' (pc + 3) lv (o.toList ++ st) μ2) : S M Qr cells slots pc lv (.ref r :: st) μ :=
  S_callOrd hr hi hKy hhh hdg hlk hsm hin hse ck hW hM (fun v μ' h => by obtain ⟨h1, rfl⟩ := h; cases h1; rw [hc9, hs9]; exact k) (fun j μ' h => by cases h.1)
theorem S_mmax {idx : Nat} {x y : Int32} (hdg : decode M.cc pc = .ok (.invokestatic idx, 3)) (hlk : Cond.methodLink M.own idx Lib.Math.max.name ∈ ab_WA) (hst : Cond.static Lib.Math.max.name ∈ ab_WA) (hini : Cond.initialized "java/lang/Math" ∈ ab_WA) (hco : Cond.code Lib.Math.max.name Lib.Math.max.code 2 (some .int) ∈ ab_WA)
    (hf : 1 ≤ M.rm.frames) (hlo : 100 ≤ M.rm.locals) (hW : (st.map fun v => v.category).sum ≤ 8) (h1 : cells ≤ M.rm.cells) (h2 : slots ≤ M.rm.slots) (k : S M Qr cells slots (pc + 3) lv (.int (if x < y then y else x) :: st) μ) : S M Qr cells slots pc lv (.int y :: .int x :: st) μ := by
  intro cx ad0 n0 p l e s m args below meth c hx d0 ad H locs ls hd he hn hw hS hl hol hs
  exact va_mmax hx.1 hx.2.1 (hx.2.2.1.trans hl.1.symm) (hx.ownd d0) (hx.tsd d0 _ hlk) (hx.tsd d0 _ hst) (hx.tsd d0 _ hini) (hx.tsd d0 _ hco) hf (by rw [cv_sum]; omega) h1 h2 hdg (k cx ad0 n0 p l e s m args below meth c hx d0 ad H locs ls hd he hn hw hS hl hol (ok_c trivial (ok_t2 hs)))
theorem S_mmin {idx : Nat} {x y : Int32} (hdg : decode M.cc pc = .ok (.invokestatic idx, 3)) (hlk : Cond.methodLink M.own idx Lib.Math.min.name ∈ ab_WA) (hst : Cond.static Lib.Math.min.name ∈ ab_WA) (hini : Cond.initialized "java/lang/Math" ∈ ab_WA) (hco : Cond.code Lib.Math.min.name Lib.Math.min.code 2 (some .int) ∈ ab_WA)
    (hf : 1 ≤ M.rm.frames) (hlo : 100 ≤ M.rm.locals) (hW : (st.map fun v => v.category).sum ≤ 8) (h1 : cells ≤ M.rm.cells) (h2 : slots ≤ M.rm.slots) (k : S M Qr cells slots (pc + 3) lv (.int (if y < x then y else x) :: st) μ) : S M Qr cells slots pc lv (.int y :: .int x :: st) μ := by
  intro cx ad0 n0 p l e s m args below meth c hx d0 ad H locs ls hd he hn hw hS hl hol hs
  exact va_mmin hx.1 hx.2.1 (hx.2.2.1.trans hl.1.symm) (hx.ownd d0) (hx.tsd d0 _ hlk) (hx.tsd d0 _ hst) (hx.tsd d0 _ hini) (hx.tsd d0 _ hco) hf (by rw [cv_sum]; omega) h1 h2 hdg (k cx ad0 n0 p l e s m args below meth c hx d0 ad H locs ls hd he hn hw hS hl hol (ok_c trivial (ok_t2 hs)))
end SKit

/-! CALLS BY THEIR KINDS, and caught exceptions -/
section SC2
variable {M K : MI} {Qr Q : (Option Value ⊕ Nat) → Mem → Prop} {cells slots pc : Nat} {lv lv' : List (Option Value)} {st : List Value} {μ : Mem}
theorem ok_rev {n : Nat} {args st : List Value} (h : ok_s n (args.reverse ++ st)) : ok_s n args ∧ ok_s n st := ⟨fun v hv => h v (List.mem_append_left _ (List.mem_reverse.mpr hv)), fun v hv => h v (List.mem_append_right _ hv)⟩
def notMH (y : MethodName) : Prop := y.cls ≠ "java/lang/invoke/MethodHandle" ∧ y.cls ≠ "java/lang/invoke/VarHandle"
theorem ab_hlen {y : MethodName} {n : Nat} (h : (parseMethodDescriptor y.desc).map (fun d => d.parameters.length) = some n) : ∀ sig, parseMethodDescriptor y.desc = some sig → n = sig.parameters.length := fun sig h1 => by
  rw [h1] at h
  exact (Option.some.inj h).symm
/-- what a callee asks of its caller: the room, the words -/
def CK (M K : MI) (cells slots : Nat) : Prop := (ab_code K.y K.cc K.n K.ret K.hh ∈ ab_WA ∧ Cond.initialized K.y.cls ∈ ab_WA ∧ notMH K.y) ∧ K.rm.frames + 1 ≤ M.rm.frames ∧ 8 + (K.n + 11) + K.rm.locals ≤ M.rm.locals ∧ cells + K.rm.cells ≤ M.rm.cells ∧ slots + K.rm.slots ≤ M.rm.slots
theorem S_callV {args : List Value} {r ci idx N : Nat} {C : String} {T : u_T} (hdg : decode M.cc pc = .ok (.invokevirtual idx, 3)) (hk : gK μ r = ci + 1) (hc : ab_cl[ci]? = some (C, T, N)) (hlk : Cond.methodLink M.own idx K.y ∈ ab_WA) (hin : Cond.instanceMethod K.y ∈ ab_WA) (hse : Cond.selects C K.y K.y ∈ ab_WA) (hlen : (parseMethodDescriptor K.y.desc).map (fun d => d.parameters.length) = some args.length) (ck : CK M K cells slots) (hW : (st.map fun v => v.category).sum ≤ 8)
    (hM : CN K (.ref r :: args) μ Q)
    (kr : ∀ (v : Option Value) (μ' : Mem), Q (.inl v) μ' → S M Qr (cells + K.rm.cells) (slots + K.rm.slots) (pc + 3) lv (v.toList ++ st) μ')
    (kx : ∀ (k : Nat) (μ' : Mem), Q (.inr k) μ' → SX M Qr (cells + K.rm.cells) (slots + K.rm.slots) pc lv st μ' k) : S M Qr cells slots pc lv (args.reverse ++ .ref r :: st) μ := by
  obtain ⟨⟨c1, c2, c3⟩, c4, c5, c6, c7⟩ := ck
  refine S_call (fun cx p l e s m av below meth c hx d0 ad H locs ls hw hS => ?_) hM c1 c2 c4 c5 c6 c7 hW (fun hs => ?_) kr kx
  · obtain ⟨hN, h8⟩ := ab_cl_at hc
    have ho := own_c hk h8
    have he9 := hw.inl ho
    rw [ent_obj hk h8] at he9
    obtain ⟨cell, g1, g2, g3⟩ := va_recv (hw.Kd d0) hw.2.1 hc he9
    have := u_invV (p := p) (l := l) (e := e) (R := M.rm) (s := s.setDrawn d0) (m := m) (args := av) (below := below) (meth := meth) (c := c) (H := H) (locs := locs) (cells := cells) (slots := slots) hx.1 (hx.ownd d0) (hx.tsd d0 _ hlk) (hx.tsd d0 _ hin) (hx.tsd d0 _ hse) (hx.tsd d0 _ c1) c3 g1 g2 g3 (g := F0 m pc ls ((args.reverse ++ .ref r :: st).map (cv ad))) rfl (argsL := args.map (cv ad)) (rest := st.map (cv ad)) (fun sig h => by rw [List.length_map]; exact ab_hlen hlen sig h) (by show (args.reverse ++ .ref r :: st).map (cv ad) = _; rw [List.map_append, List.map_cons, ab_own_ne hw ho, List.map_reverse]) (by rw [hx.2.1]; exact hdg)
    rw [List.map_cons, ab_own_ne hw ho]
    exact this
  · have h1 := ok_rev (st := .ref r :: st) hs
    exact ⟨ok_c (ok_h h1.2) h1.1, ok_t1 h1.2⟩
theorem S_callS {args : List Value} {idx : Nat} (hdg : decode M.cc pc = .ok (.invokestatic idx, 3)) (hlk : Cond.methodLink M.own idx K.y ∈ ab_WA) (hst : Cond.static K.y ∈ ab_WA) (hlen : (parseMethodDescriptor K.y.desc).map (fun d => d.parameters.length) = some args.length) (ck : CK M K cells slots) (hW : (st.map fun v => v.category).sum ≤ 8)
    (hM : CN K args μ Q)
    (kr : ∀ (v : Option Value) (μ' : Mem), Q (.inl v) μ' → S M Qr (cells + K.rm.cells) (slots + K.rm.slots) (pc + 3) lv (v.toList ++ st) μ')
    (kx : ∀ (k : Nat) (μ' : Mem), Q (.inr k) μ' → SX M Qr (cells + K.rm.cells) (slots + K.rm.slots) pc lv st μ' k) : S M Qr cells slots pc lv (args.reverse ++ st) μ := by
  obtain ⟨⟨c1, c2, c3⟩, c4, c5, c6, c7⟩ := ck
  refine S_call (fun cx p l e s m av below meth c hx d0 ad H locs ls hw hS => ?_) hM c1 c2 c4 c5 c6 c7 hW (fun hs => ok_rev hs) kr kx
  exact u_invS (p := p) (l := l) (e := e) (R := M.rm) (s := s.setDrawn d0) (m := m) (args := av) (below := below) (meth := meth) (c := c) (H := H) (locs := locs) (cells := cells) (slots := slots) hx.1 (hx.ownd d0) (hx.tsd d0 _ hlk) (hx.tsd d0 _ hst) (hx.tsd d0 _ c2) (hx.tsd d0 _ c1) c3 (g := F0 m pc ls ((args.reverse ++ st).map (cv ad))) rfl (argsL := args.map (cv ad)) (rest := st.map (cv ad)) (fun sig h => by rw [List.length_map]; exact ab_hlen hlen sig h) (by show (args.reverse ++ st).map (cv ad) = _; rw [List.map_append, List.map_reverse]) (by rw [hx.2.1]; exact hdg)
theorem S_callI {args : List Value} {r idx : Nat} (hdg : decode M.cc pc = .ok (.invokespecial idx, 3)) (hr : 23 ≤ r) (hi : K.y.name = "<init>") (hr0 : K.ret = none) (hh0 : K.hh = []) (hlk : Cond.methodLink M.own idx K.y ∈ ab_WA) (hin : Cond.instanceMethod K.y ∈ ab_WA) (hlen : (parseMethodDescriptor K.y.desc).map (fun d => d.parameters.length) = some args.length) (ck : CK M K cells slots) (hW : (st.map fun v => v.category).sum ≤ 8)
    (hM : CN K (.ref r :: args) μ Q)
    (kr : ∀ (v : Option Value) (μ' : Mem), Q (.inl v) μ' → S M Qr (cells + K.rm.cells) (slots + K.rm.slots) (pc + 3) lv (v.toList ++ st) μ')
    (kx : ∀ (k : Nat) (μ' : Mem), Q (.inr k) μ' → SX M Qr (cells + K.rm.cells) (slots + K.rm.slots) pc lv st μ' k) : S M Qr cells slots pc lv (args.reverse ++ .ref r :: st) μ := by
  obtain ⟨⟨c1, c2, c3⟩, c4, c5, c6, c7⟩ := ck
  refine S_call (fun cx p l e s m av below meth c hx d0 ad H locs ls hw hS => ?_) hM c1 c2 c4 c5 c6 c7 hW (fun hs => ?_) kr kx
  · have hcr : cv ad (.ref r) = .ref (ad r) := by simp only [cv, cv_r]; rw [if_neg (by omega)]
    have c1' : (Cond.code K.y K.cc K.n none).before av (s.setDrawn d0) = true := by
      have h1 := hx.tsd d0 _ c1
      rw [hh0, hr0] at h1
      exact h1
    have := u_invI (p := p) (l := l) (e := e) (R := M.rm) (s := s.setDrawn d0) (m := m) (args := av) (below := below) (meth := meth) (c := c) (H := H) (locs := locs) (cells := cells) (slots := slots) hx.1 (hx.ownd d0) hi (hx.tsd d0 _ hlk) (hx.tsd d0 _ hin) c1' c3 (g := F0 m pc ls ((args.reverse ++ .ref r :: st).map (cv ad))) rfl (a := ad r) (argsL := args.map (cv ad)) (rest := st.map (cv ad)) (fun sig h => by rw [List.length_map]; exact ab_hlen hlen sig h) (by show (args.reverse ++ .ref r :: st).map (cv ad) = _; rw [List.map_append, List.map_cons, hcr, List.map_reverse]) (by rw [hx.2.1]; exact hdg)
    rw [List.map_cons, hcr]
    exact this
  · have h1 := ok_rev (st := .ref r :: st) hs
    exact ⟨ok_c (ok_h h1.2) h1.1, ok_t1 h1.2⟩
theorem S_callIN {args : List Value} {r idx : Nat} {host : String} (hdg : decode M.cc pc = .ok (.invokespecial idx, 3)) (hr : 23 ≤ r) (hi : K.y.name = "<init>") (hr0 : K.ret = none) (hh0 : K.hh = []) (hlk : Cond.methodLinkNest M.own idx K.y host ∈ ab_W2) (hin : Cond.instanceMethod K.y ∈ ab_WA) (hlen : (parseMethodDescriptor K.y.desc).map (fun d => d.parameters.length) = some args.length) (ck : CK M K cells slots) (hW : (st.map fun v => v.category).sum ≤ 8)
    (hM : CN K (.ref r :: args) μ Q)
    (kr : ∀ (v : Option Value) (μ' : Mem), Q (.inl v) μ' → S M Qr (cells + K.rm.cells) (slots + K.rm.slots) (pc + 3) lv (v.toList ++ st) μ')
    (kx : ∀ (k : Nat) (μ' : Mem), Q (.inr k) μ' → SX M Qr (cells + K.rm.cells) (slots + K.rm.slots) pc lv st μ' k) : S M Qr cells slots pc lv (args.reverse ++ .ref r :: st) μ := by
  obtain ⟨⟨c1, c2, c3⟩, c4, c5, c6, c7⟩ := ck
  refine S_call (fun cx p l e s m av below meth c hx d0 ad H locs ls hw hS => ?_) hM c1 c2 c4 c5 c6 c7 hW (fun hs => ?_) kr kx
  · have hcr : cv ad (.ref r) = .ref (ad r) := by simp only [cv, cv_r]; rw [if_neg (by omega)]
    have c1' : (Cond.code K.y K.cc K.n none).before av (s.setDrawn d0) = true := by
      have h1 := hx.tsd d0 _ c1
      rw [hh0, hr0] at h1
      exact h1
    have := u_invIN (p := p) (l := l) (e := e) (R := M.rm) (s := s.setDrawn d0) (m := m) (args := av) (below := below) (meth := meth) (c := c) (H := H) (locs := locs) (cells := cells) (slots := slots) hx.1 (hx.ownd d0) hi ((Cond.before_setDrawn av s d0 _).trans (hx.2.2.2.2.2.2.2.2.2.2.w2 hlk)) (hx.tsd d0 _ hin) c1' c3 (g := F0 m pc ls ((args.reverse ++ .ref r :: st).map (cv ad))) rfl (a := ad r) (argsL := args.map (cv ad)) (rest := st.map (cv ad)) (fun sig h => by rw [List.length_map]; exact ab_hlen hlen sig h) (by show (args.reverse ++ .ref r :: st).map (cv ad) = _; rw [List.map_append, List.map_cons, hcr, List.map_reverse]) (by rw [hx.2.1]; exact hdg)
    rw [List.map_cons, hcr]
    exact this
  · have h1 := ok_rev (st := .ref r :: st) hs
    exact ⟨ok_c (ok_h h1.2) h1.1, ok_t1 h1.2⟩
/-- a caught exception: the handler's first instruction, a store of it, is run too -/
theorem SX_catch {k hpc i len : Nat} {lv' : List (Option Value)} (pre : List ExceptionTableEntry) (x : ExceptionTableEntry) (suf : List ExceptionTableEntry) (hsplit : tableOf M.hh = pre ++ x :: suf)
    (hpass : ∀ z ∈ pre, covers z pc = false ∨ (z.catchType ≠ 0 ∧ ∃ nm : String, Cond.classLink M.own z.catchType nm ∈ ab_WA ∧ (ab_E k, nm) ∈ ab_nc)) (hcov : covers x pc = true) (h0 : x.catchType ≠ 0) (hlk : Cond.classLink M.own x.catchType (ab_E k) ∈ ab_WA) (hca : Cond.castable (ab_E k) (ab_E k) ∈ ab_W2) (hpcx : x.handlerPc = hpc)
    (hdg : (len = 2 ∧ decode M.cc hpc = .ok (.astore i, 2)) ∨ (len = 1 ∧ ∃ k0 : Fin 4, (k0 : Nat) = i ∧ decode M.cc hpc = .ok (.astore_n k0, 1))) (hb : i < M.n) (hv : sto1 lv i .null = lv')
    (kk : S M Qr cells slots (hpc + len) (lv'.set i none) [] μ) : SX M Qr cells slots pc lv st μ k := by
  intro cx ad0 n0 p l e s m args below meth c hx d0 ad H locs ls hd he hn hw hS hl hol q ce hce hcv hcl
  refine vx_catch (own := M.own) (name := ab_E k) (hx.ownd d0) pre x suf (by rw [hx.2.2.2.2.2.2.2.1]; exact hsplit) (fun z hz => ?_) hcov h0 (hx.tsd d0 _ hlk) ((Cond.before_setDrawn args s d0 _).trans (hx.2.2.2.2.2.2.2.2.2.2.w2 hca)) hce hcv hcl ?_
  · rcases hpass z hz with h | ⟨h, nm, h1, h2⟩
    · exact Or.inl h
    · exact Or.inr ⟨h, nm, hx.tsd d0 _ h1, hx.2.2.2.2.2.2.2.2.2.2.nc h2⟩
  · rw [hpcx]
    have hv' : ∀ (j : Nat) (v : Value), (lv'.set i none)[j]? = some (some v) → j ≠ i ∧ lv[j]? = some (some v) ∧ ¬ (j + 1 = i ∧ v.category = 2) := by
      intro j w hj
      rw [List.getElem?_set] at hj
      by_cases hij : i = j
      · rw [if_pos hij] at hj
        split at hj
        · cases hj
        · cases hj
      · rw [if_neg hij, ← hv] at hj
        rcases sto1_spec lv i .null j w hj with ⟨h1, -⟩ | h1
        · exact absurd h1.symm hij
        · exact h1
    have hl' : ∀ ls9 : Array Slot, lv_has ls9 M.n ((i, Value.ref q) :: ((List.range lv.length).filterMap fun i => (lv[i]?.join).map fun v => (i, cv ad v)).filter (fun q => !(q.1 == i) && !(q.1 + 1 == i && q.2.category == 2))) → ab_lv ad ls9 M.n (lv'.set i none) := fun ls9 h9 => ⟨h9.1, h9.2.1, fun j w hj => by
      obtain ⟨h1, h2, h3⟩ := hv' j w hj
      refine h9.2.2 (j, cv ad w) (List.mem_cons_of_mem _ (List.mem_filter.mpr ⟨List.mem_filterMap.mpr ⟨j, ?_, by rw [h2]; rfl⟩, ?_⟩))
      · rw [List.mem_range]
        exact (List.getElem?_eq_some_iff.mp h2).1
      · simp only [Bool.and_eq_true, Bool.not_eq_true', beq_eq_false_iff_ne, ne_eq, Bool.and_eq_false_iff, cv_cat]
        refine ⟨h1, ?_⟩
        by_cases hj : j + 1 = i
        · exact Or.inr fun hc => h3 ⟨hj, hc⟩
        · exact Or.inl hj⟩
    have hol' : ok_l (gN μ) (lv'.set i none) := fun j w hj => hol j w (hv' j w hj).2.1
    rcases hdg with ⟨rfl, hdg⟩ | ⟨rfl, k0, hk0, hdg⟩
    · exact lv_astore hx.1 hx.2.1 hdg hl.to hb rfl fun ls9 hl9 => kk cx ad0 n0 p l e s m args below meth c hx d0 ad H locs ls9 hd he hn hw hS (hl' ls9 hl9) hol' (fun v hv => absurd hv List.not_mem_nil)
    · exact lv_astore_n hx.1 hx.2.1 hdg hk0 hl.to hb rfl fun ls9 hl9 => kk cx ad0 n0 p l e s m args below meth c hx d0 ad H locs ls9 hd he hn hw hS (hl' ls9 hl9) hol' (fun v hv => absurd hv List.not_mem_nil)
end SC2

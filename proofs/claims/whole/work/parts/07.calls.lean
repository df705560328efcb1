/-! CALLS: contracts of abstract methods, from the judgement and back -/
theorem Cs.go {cx : CX} {s U : State} (h : Cs cx s) (hW : s.WarmedH U.vm) (hz : s.heap.size ≤ U.heap.size) (hk : ∀ q : Nat, q < s.heap.size → ¬ cx.A q → U.heap[q]? = s.heap[q]?) : Cs cx U := by
  obtain ⟨hZ, hAO, hW2, hU, hN, hM, hNC, hCw, hKw⟩ := h
  exact ⟨Nat.le_trans hZ hz, hAO.moved hW.alike, fun w hw => good2_warm (List.mem_filter.mp hw).2 hW (hW2 w hw), (vx_Zq.moved hW.alike hU).kept hk, (vx_Zq.moved hW.alike hN).kept hk, fun q hq => by
    obtain ⟨sa, hs⟩ := hM q hq
    exact ⟨sa, vk_R.warm hW hs⟩, fun q hq => va_Nc.moved hW.alike (hNC q hq), hCw.go hW.alike hZ hk, vk_R.warm hW hKw⟩
def ab_ent0 : List Value → List (Option Value)
  | [] => []
  | v :: t => if v.category = 2 then some v :: none :: ab_ent0 t else some v :: ab_ent0 t
theorem ab_ent0_in (ad : Nat → Nat) (vs : List Value) (b i : Nat) (v : Value) (h : (ab_ent0 vs)[i]? = some (some v)) : (b + i, cv ad v) ∈ lv_args b (vs.map (cv ad)) := by
  induction vs generalizing b i with
  | nil => simp [ab_ent0] at h
  | cons a t ih =>
    simp only [List.map_cons, lv_args, cv_cat]
    unfold ab_ent0 at h
    by_cases ha : a.category = 2
    · rw [if_pos ha] at h
      rw [if_pos ha]
      match i, h with
      | 0, h => simp at h; subst h; exact List.mem_cons_self
      | 1, h => simp at h
      | i + 2, h =>
        have := ih (b + 2) i (by simpa using h)
        rw [show b + 2 + i = b + (i + 2) from by omega] at this
        exact List.mem_cons_of_mem _ this
    · rw [if_neg ha] at h
      rw [if_neg ha]
      match i, h with
      | 0, h => simp at h; subst h; exact List.mem_cons_self
      | i + 1, h =>
        have := ih (b + 1) i (by simpa using h)
        rw [show b + 1 + i = b + (i + 1) from by omega] at this
        exact List.mem_cons_of_mem _ this
theorem ab_ent0_ok {n : Nat} {vs : List Value} (h : ok_s n vs) : ok_l n (ab_ent0 vs) := by
  induction vs with
  | nil => intro i v h; simp [ab_ent0] at h
  | cons a t ih =>
    intro i v hv
    unfold ab_ent0 at hv
    by_cases ha : a.category = 2
    · rw [if_pos ha] at hv
      match i, hv with
      | 0, hv => simp at hv; subst hv; exact ok_h h
      | 1, hv => simp at hv
      | i + 2, hv => exact ih (ok_t1 h) i v (by simpa using hv)
    · rw [if_neg ha] at hv
      match i, hv with
      | 0, hv => simp at hv; subst hv; exact ok_h h
      | i + 1, hv => exact ih (ok_t1 h) i v (by simpa using hv)
/-- the contract of an abstract call: from the memory μ with these arguments the method comes to an end that Q allows -/
def CN (M : MI) (args : List Value) (μ : Mem) (Q : (Option Value ⊕ Nat) → Mem → Prop) : Prop :=
  ∀ (cx : CX) (ad0 : Nat → Nat) (l : Launch), l.stackTraces = false →
    uMet l M.y (ab_ws M.y M.cc M.n M.ret M.hh) M.rm (fun v U => v = (args.map (cv ad0)).toArray ∧ ok_s (gN μ) args ∧ Wd cx ad0 μ U U.heap ∧ Cs cx U) (ab_Qc cx ad0 (gN μ) Q) (ab_XC cx ad0 (gN μ) Q) M.rm.cells M.rm.slots cx.A
theorem ab_sl_len (ad0 : Nat → Nat) (args : List Value) : (lg_sl (args.map (cv ad0))).length = (args.map fun v => if v.category = 2 then 2 else 1).sum := by
  induction args with
  | nil => rfl
  | cons a t ih =>
    simp only [lg_sl, List.map_cons, List.flatMap_cons, List.length_append, List.sum_cons, cv_cat] at ih ⊢
    rw [ih]
    split <;> rfl
theorem CN.of {M : MI} {args : List Value} {μ : Mem} {Q : (Option Value ⊕ Nat) → Mem → Prop} (hy : plainName M.y.cls = true) (hown : M.y.cls = M.own) (hn : (args.map fun v => if v.category = 2 then 2 else 1).sum ≤ M.n) (h : S M Q 0 0 0 (ab_ent0 args) [] μ) : CN M args μ Q := by
  intro cx ad0 l hl
  refine uMet.ofW (ws' := ab_WA) hy ?_
  intro p e s m av below meth c s₁ B hml ht hv hd
  obtain ⟨rfl, hok, hw, hC⟩ := hv
  have hts : ∀ w ∈ ab_WA, w.before (args.map (cv ad0)).toArray s = true := fun w hw => atoms_spec (ws := ab_ws M.y M.cc M.n M.ret M.hh) B.pre w (List.mem_cons_of_mem _ hw)
  have hlen : (lg_sl (args.map (cv ad0))).length ≤ M.n := by
    exact Nat.le_trans (Nat.le_of_eq (ab_sl_len ad0 args)) hn
  have hE := lv_entry (args.map (cv ad0)) hlen
  rw [lg_entry_eq]
  refine h cx ad0 (gN μ) p l e s m _ below meth c ⟨B.exec, B.bytes, hml, B.returns, B.notSynchronized, hown ▸ findClass_of_methodNamed B.named, hts, ht, hl, (name_of_methodNamed B.named B.method).1, hC⟩ s.drawn ad0 s.heap [] _ hd (fun _ _ => rfl) (Nat.le_refl _) hw va_S.rf ⟨hE.1, hE.2.1, fun i v hv => ?_⟩ (ab_ent0_ok hok) (fun v hv => absurd hv List.not_mem_nil)
  have := ab_ent0_in ad0 args 0 i v hv
  rw [Nat.zero_add] at this
  exact hE.2.2 _ this
theorem CN.mono {M : MI} {args : List Value} {μ : Mem} {Q Q2 : (Option Value ⊕ Nat) → Mem → Prop} (h : CN M args μ Q) (hq : ∀ o μ', Q o μ' → Q2 o μ') : CN M args μ Q2 := by
  intro cx ad0 l hl p e ha hc hk s m av below hf happ hP hK
  obtain ⟨n, o, h1, h2, h3, d, hd, h4⟩ := h cx ad0 l hl p e ha hc hk s m av below hf happ hP hK
  refine ⟨n, o, h1, h2, h3, d, hd, ?_⟩
  rcases h4 with ⟨⟨μ', ad, ⟨v, e1, e2, e3⟩, e4⟩, e5⟩ | ⟨q, e0, E, ce, L, ⟨μ', ad, ⟨k, e1, e2⟩, e3⟩, e4⟩
  · exact Or.inl ⟨⟨μ', ad, ⟨v, e1, hq _ _ e2, e3⟩, e4⟩, e5⟩
  · exact Or.inr ⟨q, e0, E, ce, L, ⟨μ', ad, ⟨k, e1, hq _ _ e2⟩, e3⟩, e4⟩
/-- the frame with an exception of class number k thrown over it -/
def SX (M : MI) (Qr : (Option Value ⊕ Nat) → Mem → Prop) (cells slots pc : Nat) (lv : List (Option Value)) (st : List Value) (μ : Mem) (k : Nat) : Prop :=
  ∀ (cx : CX) (ad0 : Nat → Nat) (n0 : Nat) (p : Program) (l : Launch) (e : Env) (s : State) (m : MethodId) (args : Array Value) (below : List Frame) (meth : Method) (c : Code), HX cx M p l s m args meth c →
  ∀ (d0 : Drawn) (ad : Nat → Nat) (H : Heap) (locs : List Loc) (ls : Array Slot), s.drawn.sameBut d0 lw_cs → ab_ext ad0 n0 ad → n0 ≤ gN μ → Wd cx ad μ s H → va_S cx.A s.heap H locs → ab_lv ad ls M.n lv → ok_l (gN μ) lv →
  ∀ (q : Addr) (ce : Cell), H[q]? = some ce → ce.vm = .none → s.vm.findClass (ab_E k) = some ce.cls →
  vx_W p l e M.rm (s.setDrawn d0) m args below meth c H locs cells slots (uMQ below (ab_Qc cx ad0 n0 Qr) (ab_XC cx ad0 n0 Qr) args s M.rm.cells M.rm.slots cx.A) (F0 m pc ls (st.map (cv ad))) q
section SC
variable {M K : MI} {Qr Q : (Option Value ⊕ Nat) → Mem → Prop} {cells slots pc : Nat} {lv lv' : List (Option Value)} {st : List Value} {μ : Mem}
theorem SX.out {k : Nat} (hh0 : M.hh = []) (h1 : cells ≤ M.rm.cells) (h2 : slots ≤ M.rm.slots) (hq : Qr (.inr k) μ) : SX M Qr cells slots pc lv st μ k := by
  intro cx ad0 n0 p l e s m args below meth c hx d0 ad H locs ls hd he hn hw hS hl hol q ce hce hcv hcl T hT X
  obtain ⟨t, a1, b1⟩ := vx_out (s := s.setDrawn d0) (p := p) (l := l) (e := e) (R := M.rm) (m := m) (args := args) (below := below) (meth := meth) (c := c) (H := H) (locs := locs) (cells := cells) (slots := slots) (pc := pc) (ls := ls) (rest := st.map (cv ad)) (E := ab_E k) (ce := ce) (q := q) (mc := M.rm.cells) (ms := M.rm.slots) (free := cx.A) (Qc := ab_Qc cx ad0 n0 Qr) (XC := ab_XC cx ad0 n0 Qr)
    (by rw [hx.2.2.2.2.2.2.2.1, hh0]; intro x h9; simp [tableOf] at h9) hx.2.2.2.2.1 hce hcv hcl
    (fun t ht hv => ⟨μ, ad, ⟨k, rfl, hq⟩, he, hn, by rw [ht]; exact hw.d d0, hS.F ht⟩) hS.2.2 h1 h2 T hT X
  exact ⟨t, a1, d0, hd, b1⟩
theorem cv_ext {ad ad1 : Nat → Nat} {n : Nat} {v : Value} (h : okv n v) (he : ab_ext ad n ad1) : cv ad1 v = cv ad v := by
  cases v with
  | ref r => simp only [cv, cv_r]; rw [he r h]
  | _ => rfl
theorem cv_exts {ad ad1 : Nat → Nat} {n : Nat} {st : List Value} (h : ok_s n st) (he : ab_ext ad n ad1) : st.map (cv ad1) = st.map (cv ad) := List.map_congr_left fun v hv => cv_ext (h v hv) he
theorem ab_lv.ext {ad ad1 : Nat → Nat} {ls : Array Slot} {k n : Nat} {lv : List (Option Value)} (h : ab_lv ad ls k lv) (ho : ok_l n lv) (he : ab_ext ad n ad1) : ab_lv ad1 ls k lv := ⟨h.1, h.2.1, fun i v hv => by rw [cv_ext (ho i v hv) he]; exact h.2.2 i v hv⟩
/-- a call, from the point where the callee is invoked: it comes back with a value or with an exception -/
theorem S_call {args : List Value} {stk : List Value}
    (hI : ∀ (cx : CX) (p : Program) (l : Launch) (e : Env) (s : State) (m : MethodId) (av : Array Value) (below : List Frame) (meth : Method) (c : Code), HX cx M p l s m av meth c → ∀ (d0 : Drawn) (ad : Nat → Nat) (H : Heap) (locs : List Loc) (ls : Array Slot), Wd cx ad μ s H → va_S cx.A s.heap H locs →
      u_Inv p l e M.rm (s.setDrawn d0) m av below meth c H locs cells slots K.y (args.map (cv ad)) (F0 m pc ls (stk.map (cv ad))) (st.map (cv ad)))
    (hM : CN K args μ Q) (hcode : ab_code K.y K.cc K.n K.ret K.hh ∈ ab_WA) (hini : Cond.initialized K.y.cls ∈ ab_WA)
    (hfr : K.rm.frames + 1 ≤ M.rm.frames) (hlo : 8 + (K.n + 11) + K.rm.locals ≤ M.rm.locals) (hce : cells + K.rm.cells ≤ M.rm.cells) (hsl : slots + K.rm.slots ≤ M.rm.slots) (hW : (st.map fun v => v.category).sum ≤ 8)
    (hok : ok_s (gN μ) stk → ok_s (gN μ) args ∧ ok_s (gN μ) st)
    (kr : ∀ (v : Option Value) (μ' : Mem), Q (.inl v) μ' → S M Qr (cells + K.rm.cells) (slots + K.rm.slots) (pc + 3) lv (v.toList ++ st) μ')
    (kx : ∀ (k : Nat) (μ' : Mem), Q (.inr k) μ' → SX M Qr (cells + K.rm.cells) (slots + K.rm.slots) pc lv st μ' k) : S M Qr cells slots pc lv stk μ := by
  intro cx ad0 n0 p l e s m av below meth c hx d0 ad H locs ls hd he hn hw hS hl hol hs
  obtain ⟨ho1, ho2⟩ := hok hs
  have hr := u_run (hI cx p l e s m av below meth c hx d0 ad H locs ls hw hS) (hM cx ad l hx.2.2.2.2.2.2.2.2.1) rfl rfl hfr hlo
    (bytes := K.cc) (maxL := K.n) (ret := K.ret) (hh := K.hh)
    (fun w hw9 a' U hW9 => by
      rcases List.mem_cons.mp hw9 with rfl | h9
      · exact word_at hW9 (good_of_word (List.mem_filter.mp hcode).2) (hx.tsd d0 _ hcode)
      · exact word_at hW9 (good_of_word (List.mem_filter.mp h9).2) (hx.tsd d0 _ h9)) List.mem_cons_self (hx.tsd d0 _ hini)
    (fun a U g mk ⟨q1, q2, q3, q4⟩ => ⟨q1, q2, q3.moved (s2 := U.calling g mk a) (Vm.Alike.refl U.vm), q4.go (U := U.calling g mk a) (State.WarmedH.refl U) (Nat.le_refl _) (fun _ _ _ => rfl)⟩)
    (fun U hU hWU => ⟨rfl, ho1, by rw [hU]; exact (hw.d d0).moved hWU.alike, hx.2.2.2.2.2.2.2.2.2.2.go (U := U) hWU (by rw [hU]; exact hS.1) (fun q h1 h2 => by rw [hU]; exact hS.2.1 q h1 h2)⟩)
    rfl (hl.1.trans hx.2.2.1.symm) (by show 2 * 0 + _ ≤ 8; rw [cv_sum]; omega) ⟨hce, hsl⟩
  intro T hT X
  obtain ⟨d, hd1, ⟨v', st₀, t, T', L, h0, hva, X', hL, e1, e2, ⟨μ', ad', ⟨v, ev, hq, hov⟩, hex, hn', hw', hF⟩, hst⟩ | ⟨q, st₀, t, T', L, E, ce, h0, hva, X', hL, e1, e2, ⟨μ', ad', ⟨k, ev, hq⟩, hex, hn', hw', hF⟩, hce9, hcv, hcl, hst⟩⟩ := hr T hT X
  · cases ev
    obtain ⟨k1, k2, k3⟩ := vx_keep h0 e1 hS (fun q _ h => h) (fun q h => h) hL hF
    have h2 := kr v μ' hq cx ad0 n0 p l e s m av below meth c hx d ad' T'.heap (locs ++ L) ls (hd.trans hd1) (fun r hr => (hex r (Nat.lt_of_lt_of_le hr hn)).trans (he r hr)) (Nat.le_trans hn hn') (by rw [e1]; exact hw'.moved (Vm.Alike.symm hva)) k3 (hl.ext hol hex) (ok_lup hol hn') (fun x hx9 => (List.mem_append.mp hx9).elim (fun h => hov x (by cases v with | none => simp at h | some y => simp at h; rw [h])) (fun h => ok_up ho2 hn' x h))
    rw [List.map_append, cv_exts ho2 hex] at h2
    obtain ⟨t2, a1, b1⟩ := h2 T' rfl X'
    refine ⟨t2, hst t2 ?_, b1⟩
    have ev2 : (v.map (cv ad')).toList = v.toList.map (cv ad') := by cases v <;> rfl
    rw [ev2]
    exact a1
  · obtain ⟨k1, k2, k3⟩ := vx_keep h0 e1 hS (fun q _ h => h) (fun q h => h) hL hF
    have h2 := kx k μ' hq cx ad0 n0 p l e s m av below meth c hx d ad' T'.heap (locs ++ L) ls (hd.trans hd1) (fun r hr => (hex r (Nat.lt_of_lt_of_le hr hn)).trans (he r hr)) (Nat.le_trans hn hn') (by rw [e1]; exact hw'.moved (Vm.Alike.symm hva)) k3 (hl.ext hol hex) (ok_lup hol hn') q ce (by rw [e1]; exact hce9) hcv (ev ▸ hcl)
    rw [cv_exts ho2 hex] at h2
    obtain ⟨t2, a1, b1⟩ := h2 T' rfl X'
    exact ⟨t2, hst.trans a1, b1⟩
end SC

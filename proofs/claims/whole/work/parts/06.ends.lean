/-! ENDS: returns, and exceptions that are made and thrown -/
theorem Wd.d {cx : CX} {ad : Nat → Nat} {μ : Mem} {s : State} {H : Heap} (h : Wd cx ad μ s H) (d : Drawn) : Wd cx ad μ (s.setDrawn d) H := ⟨h.Kd d, h.2⟩
theorem Wd.moved {cx : CX} {ad : Nat → Nat} {μ : Mem} {s s2 : State} {H : Heap} (h : Wd cx ad μ s H) (hv : s.vm.Alike s2.vm) : Wd cx ad μ s2 H := ⟨va_K.moved hv h.1, h.2⟩
theorem Wd.kept {cx : CX} {ad : Nat → Nat} {μ : Mem} {s : State} {H H1 : Heap} (h : Wd cx ad μ s H) (hk : ∀ q : Nat, q < H.size → H1[q]? = H[q]?) : Wd cx ad μ s H1 :=
  ⟨h.1, h.2.1.kept fun k q hq => hk q.1 (h.2.1 k q hq).lt, h.2.2⟩
theorem W.mono {p : Program} {l : Launch} {e : Env} {R : Room} {s : State} {m : MethodId} {args : Array Value} {below : List Frame} {meth : Method} {c : Code} {H : Heap} {locs : List Loc} {cells slots : Nat} {Q Q2 : State → Prop} {g : JFrame} (h : ∀ t, Q t → Q2 t) (k : W p l e R s m args below meth c H locs cells slots Q g) : W p l e R s m args below meth c H locs cells slots Q2 g := fun T hT X => by
  obtain ⟨t, a, b⟩ := k T hT X
  exact ⟨t, a, h t b⟩
/-- the end of a walk over the start with the record d0 -/
theorem u_end {p : Program} {l : Launch} {e : Env} {R : Room} {s : State} {m : MethodId} {args : Array Value} {below : List Frame} {meth : Method} {c : Code} {H : Heap} {locs : List Loc} {cells slots : Nat} {Qc : Array Value → State → Outcome → State → Prop} {XC : String → State → State → Prop} {mc ms : Nat} {free : Addr → Prop} {g : JFrame} {d0 : Drawn} (hd : s.drawn.sameBut d0 lw_cs) (k : W p l e R (s.setDrawn d0) m args below meth c H locs cells slots (vx_MQ below Qc XC args (s.setDrawn d0) mc ms free) g) : W p l e R (s.setDrawn d0) m args below meth c H locs cells slots (uMQ below Qc XC args s mc ms free) g :=
  W.mono (fun t h => ⟨d0, hd, h⟩) k
theorem u_ret {p : Program} {l : Launch} {e : Env} {R : Room} {s : State} {m : MethodId} {args : Array Value} {below : List Frame} {meth : Method} {c : Code} {H : Heap} {locs : List Loc} {cells slots : Nat} {Qc : Array Value → State → Outcome → State → Prop} {XC : String → State → State → Prop} {mc ms : Nat} {free : Addr → Prop} {g : JFrame} {d0 : Drawn} (hd : s.drawn.sameBut d0 lw_cs) (h1 : cells ≤ mc) (h2 : slots ≤ ms) (k : W p l e R (s.setDrawn d0) m args below meth c H locs mc ms (MQ below Qc args (s.setDrawn d0) mc ms free) g) : W p l e R (s.setDrawn d0) m args below meth c H locs cells slots (uMQ below Qc XC args s mc ms free) g :=
  u_end hd (W.widen h1 h2 (vx_ret k))
section SE
variable {M : MI} {Qr : (Option Value ⊕ Nat) → Mem → Prop} {cells slots pc : Nat} {lv lv' : List (Option Value)} {st : List Value} {μ : Mem}
theorem S_ireturn {v : Int32} (hdg : decode M.cc pc = .ok (.ireturn, 1)) (hr : M.ret = some .int)  (h1 : cells ≤ M.rm.cells) (h2 : slots ≤ M.rm.slots) (hq : Qr (.inl (some (.int v))) μ) : S M Qr cells slots pc lv [.int v] μ := by
  intro cx ad0 n0 p l e s m args below meth c hx d0 ad H locs ls hd he hn hw hS hl hol hs
  exact u_ret hd h1 h2 (W.iret (v := v) hx.1 hx.2.1 (hx.2.2.2.1.trans hr)  (fun t ht hW => ⟨μ, ad, ⟨some (.int v), rfl, hq, fun x hx9 => by cases hx9; exact ok_h hs⟩, he, hn, by rw [ht]; exact hw.d d0, hS.F ht⟩) hS.2.2 hdg hx.2.2.2.2.1)
theorem S_zreturn {v : Int32} (hdg : decode M.cc pc = .ok (.ireturn, 1)) (hr : M.ret = some .boolean) (hv01 : v = 0 ∨ v = 1) (h1 : cells ≤ M.rm.cells) (h2 : slots ≤ M.rm.slots) (hq : Qr (.inl (some (.int v))) μ) : S M Qr cells slots pc lv [.int v] μ := by
  intro cx ad0 n0 p l e s m args below meth c hx d0 ad H locs ls hd he hn hw hS hl hol hs
  exact u_ret hd h1 h2 (W.zret (v := v) hx.1 hx.2.1 (hx.2.2.2.1.trans hr) (by rcases hv01 with rfl | rfl <;> decide) (fun t ht hW => ⟨μ, ad, ⟨some (.int v), rfl, hq, fun x hx9 => by cases hx9; exact ok_h hs⟩, he, hn, by rw [ht]; exact hw.d d0, hS.F ht⟩) hS.2.2 hdg hx.2.2.2.2.1)
theorem S_creturn {v : Int32} (hdg : decode M.cc pc = .ok (.ireturn, 1)) (hr : M.ret = some .char) (hv9 : narrow .char (.int v) = .int v) (h1 : cells ≤ M.rm.cells) (h2 : slots ≤ M.rm.slots) (hq : Qr (.inl (some (.int v))) μ) : S M Qr cells slots pc lv [.int v] μ := by
  intro cx ad0 n0 p l e s m args below meth c hx d0 ad H locs ls hd he hn hw hS hl hol hs
  exact u_ret hd h1 h2 (W.zret (v := v) hx.1 hx.2.1 (hx.2.2.2.1.trans hr) hv9 (fun t ht hW => ⟨μ, ad, ⟨some (.int v), rfl, hq, fun x hx9 => by cases hx9; exact ok_h hs⟩, he, hn, by rw [ht]; exact hw.d d0, hS.F ht⟩) hS.2.2 hdg hx.2.2.2.2.1)
theorem S_lreturn {v : Int64} (hdg : decode M.cc pc = .ok (.lreturn, 1)) (hr : M.ret = some .long)  (h1 : cells ≤ M.rm.cells) (h2 : slots ≤ M.rm.slots) (hq : Qr (.inl (some (.long v))) μ) : S M Qr cells slots pc lv [.long v] μ := by
  intro cx ad0 n0 p l e s m args below meth c hx d0 ad H locs ls hd he hn hw hS hl hol hs
  exact u_ret hd h1 h2 (W.lret (v := v) hx.1 hx.2.1 (hx.2.2.2.1.trans hr)  (fun t ht hW => ⟨μ, ad, ⟨some (.long v), rfl, hq, fun x hx9 => by cases hx9; exact ok_h hs⟩, he, hn, by rw [ht]; exact hw.d d0, hS.F ht⟩) hS.2.2 hdg hx.2.2.2.2.1)
theorem S_freturn {v : UInt32} (hdg : decode M.cc pc = .ok (.freturn, 1)) (hr : M.ret = some .float)  (h1 : cells ≤ M.rm.cells) (h2 : slots ≤ M.rm.slots) (hq : Qr (.inl (some (.float v))) μ) : S M Qr cells slots pc lv [.float v] μ := by
  intro cx ad0 n0 p l e s m args below meth c hx d0 ad H locs ls hd he hn hw hS hl hol hs
  exact u_ret hd h1 h2 (W.fret (v := v) hx.1 hx.2.1 (hx.2.2.2.1.trans hr)  (fun t ht hW => ⟨μ, ad, ⟨some (.float v), rfl, hq, fun x hx9 => by cases hx9; exact ok_h hs⟩, he, hn, by rw [ht]; exact hw.d d0, hS.F ht⟩) hS.2.2 hdg hx.2.2.2.2.1)
theorem S_dreturn {v : UInt64} (hdg : decode M.cc pc = .ok (.dreturn, 1)) (hr : M.ret = some .double)  (h1 : cells ≤ M.rm.cells) (h2 : slots ≤ M.rm.slots) (hq : Qr (.inl (some (.double v))) μ) : S M Qr cells slots pc lv [.double v] μ := by
  intro cx ad0 n0 p l e s m args below meth c hx d0 ad H locs ls hd he hn hw hS hl hol hs
  exact u_ret hd h1 h2 (W.dret (v := v) hx.1 hx.2.1 (hx.2.2.2.1.trans hr)  (fun t ht hW => ⟨μ, ad, ⟨some (.double v), rfl, hq, fun x hx9 => by cases hx9; exact ok_h hs⟩, he, hn, by rw [ht]; exact hw.d d0, hS.F ht⟩) hS.2.2 hdg hx.2.2.2.2.1)
theorem S_areturn {v : Nat} {n : String} (hdg : decode M.cc pc = .ok (.areturn, 1)) (hr : M.ret = some (.object n)) (h1 : cells ≤ M.rm.cells) (h2 : slots ≤ M.rm.slots) (hq : Qr (.inl (some (.ref v))) μ) : S M Qr cells slots pc lv [.ref v] μ := by
  intro cx ad0 n0 p l e s m args below meth c hx d0 ad H locs ls hd he hn hw hS hl hol hs
  exact u_ret hd h1 h2 (W.aret (v := cv ad (.ref v)) hx.1 hx.2.1 (hx.2.2.2.1.trans hr) (Or.inl ⟨n, rfl⟩) (by simp only [cv, cv_r]; split <;> simp) (fun t ht hW => ⟨μ, ad, ⟨some (.ref v), rfl, hq, fun x hx9 => by cases hx9; exact ok_h hs⟩, he, hn, by rw [ht]; exact hw.d d0, hS.F ht⟩) hS.2.2 hdg hx.2.2.2.2.1)
theorem S_return (hdg : decode M.cc pc = .ok (.return_, 1)) (hr : M.ret = none) (h1 : cells ≤ M.rm.cells) (h2 : slots ≤ M.rm.slots) (hq : Qr (.inl none) μ) : S M Qr cells slots pc lv [] μ := by
  intro cx ad0 n0 p l e s m args below meth c hx d0 ad H locs ls hd he hn hw hS hl hol hs
  exact u_ret hd h1 h2 (W.vret hx.1 hx.2.1 (hx.2.2.2.1.trans hr) (fun t ht hW => ⟨μ, ad, ⟨none, rfl, hq, fun x hx9 => nomatch hx9⟩, he, hn, by rw [ht]; exact hw.d d0, hS.F ht⟩) hS.2.2 hdg hx.2.2.2.2.1)
def ab_names : List String := ["java/lang/RuntimeException", "java/lang/Exception"]
/-- the words of a throw, all but the link of the constructor -/
def ab_xw (k ic : Nat) : List Cond := vx_atS RX8 ic (ab_E k) ab_names
theorem xw0 : ∀ w ∈ ab_xw 0 0, (w ∈ lw_tbl ∧ (goodWord w || good2 w) = true) ∨ w = .methodLink RX8 0 (Bundle.initS (ab_E 0)) := by decide +kernel
theorem xw1 : ∀ w ∈ ab_xw 1 0, (w ∈ lw_tbl ∧ (goodWord w || good2 w) = true) ∨ w = .methodLink RX8 0 (Bundle.initS (ab_E 1)) := by decide +kernel
theorem xw2 : ∀ w ∈ ab_xw 2 0, (w ∈ lw_tbl ∧ (goodWord w || good2 w) = true) ∨ w = .methodLink RX8 0 (Bundle.initS (ab_E 2)) := by decide +kernel
theorem xw_ic {k ic : Nat} {w : Cond} (h : w ∈ ab_xw k ic) : w = .methodLink RX8 ic (Bundle.initS (ab_E k)) ∨ w ∈ ab_xw k 0 := by
  unfold ab_xw vx_atS Bundle.ownAtoms at h ⊢
  obtain ⟨h1, h2⟩ := List.mem_filter.mp h
  by_cases hw : w = .methodLink RX8 ic (Bundle.initS (ab_E k))
  · exact Or.inl hw
  · refine Or.inr (List.mem_filter.mpr ⟨?_, h2⟩)
    rcases List.mem_append.mp h1 with h3 | h3
    · exact List.mem_append_left _ h3
    · refine List.mem_append_right _ ?_
      rcases List.mem_cons.mp h3 with h4 | h4
      · exact absurd h4 hw
      · exact List.mem_cons_of_mem _ h4
theorem xw_all {k ic : Nat} (hk : k < 3) (hl : Cond.methodLink RX8 ic (Bundle.initS (ab_E k)) ∈ ab_WA) : ∀ w ∈ ab_xw k ic, w ∈ ab_WA ∨ w ∈ ab_W2 := by
  intro w hw
  have h0 : (w ∈ lw_tbl ∧ (goodWord w || good2 w) = true) ∨ w = .methodLink RX8 0 (Bundle.initS (ab_E k)) ∨ w = .methodLink RX8 ic (Bundle.initS (ab_E k)) := by
    rcases xw_ic hw with h | h
    · exact Or.inr (Or.inr h)
    · match k, hk with
      | 0, _ => exact (xw0 w h).imp id Or.inl
      | 1, _ => exact (xw1 w h).imp id Or.inl
      | 2, _ => exact (xw2 w h).imp id Or.inl
  rcases h0 with ⟨h1, h2⟩ | h1 | h1
  · rw [Bool.or_eq_true] at h2
    rcases h2 with h2 | h2
    · exact Or.inl (List.mem_filter.mpr ⟨h1, h2⟩)
    · exact Or.inr (List.mem_filter.mpr ⟨h1, h2⟩)
  · subst h1
    by_cases hi : ic = 0
    · subst hi; exact Or.inl hl
    · exfalso
      unfold ab_xw vx_atS Bundle.ownAtoms at hw
      have h1 := (List.mem_filter.mp hw).1
      rcases List.mem_append.mp h1 with h3 | h3
      · match k, hk with
        | 0, _ => exact absurd h3 (by decide +kernel)
        | 1, _ => exact absurd h3 (by decide +kernel)
        | 2, _ => exact absurd h3 (by decide +kernel)
      · simp only [List.mem_cons, Cond.methodLink.injEq, reduceCtorEq, List.not_mem_nil, or_false, false_or] at h3
        exact hi h3.2.1.symm
  · subst h1; exact Or.inl hl
theorem xw_ot {k ic : Nat} (hk : k < 3) (hl : Cond.methodLink RX8 ic (Bundle.initS (ab_E k)) ∈ ab_WA) : ∀ w ∈ ab_xw k ic, vx_ot w = true := fun w hw => by
  unfold vx_ot
  rcases xw_all hk hl w hw with h | h
  · rw [(List.mem_filter.mp h).2, Bool.or_true]
  · rw [good2_tab (List.mem_filter.mp h).2, Bool.true_or]
theorem ab_E_fit {k : Nat} (hk : k < 3) : Bundle.fit (ab_E k) = true := by
  match k, hk with
  | 0, _ => decide +kernel
  | 1, _ => decide +kernel
  | 2, _ => decide +kernel
theorem ab_names_fit : ∀ n ∈ ab_names, Bundle.fit n = true := by decide +kernel
theorem vx_Zq.dr {C n d : String} {A : Nat → Prop} {s : State} (h : vx_Zq C n d A s s.heap) (d0 : Drawn) : vx_Zq C n d A (s.setDrawn d0) (s.setDrawn d0).heap := vx_Zq.moved (u := s) (U := s.setDrawn d0) (Vm.Alike.refl s.vm) h
theorem S_throw {k ik is ic : Nat} {text : String} (hk : k < 3) (hown : M.own = RX8) (d0' : decode M.cc pc = .ok (.new ik, 3)) (d3 : decode M.cc (pc + 3) = .ok (.dup, 1)) (d4 : decode M.cc (pc + 4) = .ok (.ldc is, 2)) (d6 : decode M.cc (pc + 6) = .ok (.invokespecial ic, 3)) (d9 : decode M.cc (pc + 9) = .ok (.athrow, 1))
    (hh0 : M.hh = []) (hck : Cond.classLink RX8 ik (ab_E k) ∈ ab_WA) (hini : Cond.initialized (ab_E k) ∈ ab_WA) (hml : Cond.methodLink RX8 ic (Bundle.initS (ab_E k)) ∈ ab_WA) (hmsg : (RX8, is, text) ∈ ab_msgs)
    (hf : 5 < M.rm.frames) (hlo : 100 ≤ M.rm.locals) (hW : (st.map fun v => v.category).sum ≤ 8) (h1 : cells + 1 ≤ M.rm.cells) (h2 : slots + 6 ≤ M.rm.slots) (hq : Qr (.inr k) μ) : S M Qr cells slots pc lv st μ := by
  intro cx ad0 n0 p l e s m args below meth c hx d0 ad H locs ls hd he hn hw hS hl hol hs
  obtain ⟨hZ, hAO, hW2, hU, hN, hM, -⟩ := hx.2.2.2.2.2.2.2.2.2.2
  obtain ⟨sa, hsa⟩ := hM _ hmsg
  have hts := hx.tsd d0
  have hw2 : ∀ w ∈ ab_W2, w.before args (s.setDrawn d0) = true := fun w hw => (Cond.before_setDrawn args s d0 w).trans (va_Nw.use (good2_tab (List.mem_filter.mp hw).2) (hW2 w hw))
  have hown' : (s.setDrawn d0).vm.findClass RX8 = some m.cls := hown ▸ hx.ownd d0
  refine u_end hd (vx_throwS (own := RX8) (cls := ab_E k) (names := ab_names) (text := text) (sa := sa) (A := cx.A) hx.1 hx.2.1 hx.2.2.2.2.2.2.2.2.1 hown' (ab_E_fit hk) ab_names_fit (hts _ hck) (hts _ hini) (vk_R.same (u := s) (U := s.setDrawn d0) rfl hsa)
    (fun w hw => (xw_all hk hml w hw).elim (hts w) (hw2 w)) ?_ (hU.dr d0) (hN.dr d0) hS (hl.1.trans hx.2.2.1.symm) d0' d3 d4 d6 d9 ?_ ?_ ?_ h1 h2 hx.2.2.2.2.1 ?_ hS.2.2 h1 h2)
  · intro w hw
    rcases List.mem_cons.mp hw with rfl | hw
    · unfold vx_ot; rw [(List.mem_filter.mp hck).2, Bool.or_true]
    · rcases List.mem_cons.mp hw with rfl | hw
      · unfold vx_ot; rw [(List.mem_filter.mp hini).2, Bool.or_true]
      · exact xw_ot hk hml w hw
  · rw [hx.2.2.2.2.2.2.2.1, hh0]
    intro x h9
    simp [tableOf] at h9
  · exact hf
  · rw [cv_sum]
    show _ + (13 * (2 + 1) + 43) ≤ _
    omega
  · intro t hv hz hk9
    exact ⟨μ, ad, ⟨k, rfl, hq⟩, he, hn, (hw.d d0).kept hk9, Nat.le_trans hS.1 hz, fun q h3 h4 => (hk9 q (Nat.lt_of_lt_of_le h3 hS.1)).trans (hS.2.1 q h3 h4)⟩
theorem S_throwW {k ik is ic : Nat} {text : String} (hk : k < 3) (hown : M.own = RX8) (d0' : decode M.cc pc = .ok (.new ik, 3)) (d3 : decode M.cc (pc + 3) = .ok (.dup, 1)) (d4 : decode M.cc (pc + 4) = .ok (.ldc_w is, 3)) (d6 : decode M.cc (pc + 7) = .ok (.invokespecial ic, 3)) (d9 : decode M.cc (pc + 10) = .ok (.athrow, 1))
    (hh0 : M.hh = []) (hck : Cond.classLink RX8 ik (ab_E k) ∈ ab_WA) (hini : Cond.initialized (ab_E k) ∈ ab_WA) (hml : Cond.methodLink RX8 ic (Bundle.initS (ab_E k)) ∈ ab_WA) (hmsg : (RX8, is, text) ∈ ab_msgs)
    (hf : 5 < M.rm.frames) (hlo : 100 ≤ M.rm.locals) (hW : (st.map fun v => v.category).sum ≤ 8) (h1 : cells + 1 ≤ M.rm.cells) (h2 : slots + 6 ≤ M.rm.slots) (hq : Qr (.inr k) μ) : S M Qr cells slots pc lv st μ := by
  intro cx ad0 n0 p l e s m args below meth c hx d0 ad H locs ls hd he hn hw hS hl hol hs
  obtain ⟨hZ, hAO, hW2, hU, hN, hM, -⟩ := hx.2.2.2.2.2.2.2.2.2.2
  obtain ⟨sa, hsa⟩ := hM _ hmsg
  have hts := hx.tsd d0
  have hw2 : ∀ w ∈ ab_W2, w.before args (s.setDrawn d0) = true := fun w hw => (Cond.before_setDrawn args s d0 w).trans (va_Nw.use (good2_tab (List.mem_filter.mp hw).2) (hW2 w hw))
  have hown' : (s.setDrawn d0).vm.findClass RX8 = some m.cls := hown ▸ hx.ownd d0
  refine u_end hd (vx_throwSW (own := RX8) (cls := ab_E k) (names := ab_names) (text := text) (sa := sa) (A := cx.A) hx.1 hx.2.1 hx.2.2.2.2.2.2.2.2.1 hown' (ab_E_fit hk) ab_names_fit (hts _ hck) (hts _ hini) (vk_R.same (u := s) (U := s.setDrawn d0) rfl hsa)
    (fun w hw => (xw_all hk hml w hw).elim (hts w) (hw2 w)) ?_ (hU.dr d0) (hN.dr d0) hS (hl.1.trans hx.2.2.1.symm) d0' d3 d4 d6 d9 ?_ ?_ ?_ h1 h2 hx.2.2.2.2.1 ?_ hS.2.2 h1 h2)
  · intro w hw
    rcases List.mem_cons.mp hw with rfl | hw
    · unfold vx_ot; rw [(List.mem_filter.mp hck).2, Bool.or_true]
    · rcases List.mem_cons.mp hw with rfl | hw
      · unfold vx_ot; rw [(List.mem_filter.mp hini).2, Bool.or_true]
      · exact xw_ot hk hml w hw
  · rw [hx.2.2.2.2.2.2.2.1, hh0]
    intro x h9
    simp [tableOf] at h9
  · exact hf
  · rw [cv_sum]
    show _ + (13 * (2 + 1) + 43) ≤ _
    omega
  · intro t hv hz hk9
    exact ⟨μ, ad, ⟨k, rfl, hq⟩, he, hn, (hw.d d0).kept hk9, Nat.le_trans hS.1 hz, fun q h3 h4 => (hk9 q (Nat.lt_of_lt_of_le h3 hS.1)).trans (hS.2.1 q h3 h4)⟩
end SE

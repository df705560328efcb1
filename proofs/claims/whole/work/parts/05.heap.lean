/-! RULES OF THE MEMORY -/
theorem ab_wa {w : Cond} (i : Nat) (h : lw_tbl[i]? = some w) (hg : goodWord w = true) : w ∈ ab_WA := List.mem_filter.mpr ⟨List.mem_of_getElem? h, hg⟩
theorem HX.tsd {cx : CX} {M : MI} {p : Program} {l : Launch} {s : State} {m : MethodId} {args : Array Value} {meth : Method} {c : Code} (h : HX cx M p l s m args meth c) (d : Drawn) : ∀ w ∈ ab_WA, w.before args (s.setDrawn d) = true := dr_words h.2.2.2.2.2.2.1 d
theorem HX.ownd {cx : CX} {M : MI} {p : Program} {l : Launch} {s : State} {m : MethodId} {args : Array Value} {meth : Method} {c : Code} (h : HX cx M p l s m args meth c) (d : Drawn) : (s.setDrawn d).vm.findClass M.own = some m.cls := h.2.2.2.2.2.1
theorem Wd.Kd {cx : CX} {ad : Nat → Nat} {μ : Mem} {s : State} {H : Heap} (h : Wd cx ad μ s H) (d : Drawn) : va_K cx.D ab_cl (ab_tys cx) (s.setDrawn d) := va_K.moved (u := s) (U := s.setDrawn d) (Vm.Alike.refl s.vm) h.1
def ab_av (μ : Mem) (r j : Nat) (ty : FieldType) : Value := match ty with
  | .int => .int (gI μ r j)
  | .boolean => .int (gI μ r j)
  | .long => .long (gJ μ r j)
  | _ => .ref (gR μ r j)
theorem cv_av (ad : Nat → Nat) (μ : Mem) (r j : Nat) (ty : FieldType) : cv ad (ab_av μ r j ty) = ab_fv ad μ r j ty := by cases ty <;> rfl
theorem ab_own_ne {cx : CX} {ad : Nat → Nat} {μ : Mem} {s : State} {H : Heap} (h : Wd cx ad μ s H) {r : Nat} (hk : ab_own (gK μ r)) : cv ad (.ref r) = .ref (ad r) := by
  have := h.2.2.2.2.1 r hk
  simp only [cv, cv_r]
  rw [if_neg (by omega)]
theorem ok_av {cx : CX} {ad : Nat → Nat} {μ : Mem} {s : State} {H : Heap} (h : Wd cx ad μ s H) (r j : Nat) (ty : FieldType) : okv (gN μ) (ab_av μ r j ty) := by
  have h9 := h.2.2.2.2.2.2.2.2.1 r j
  cases ty <;> first | trivial | exact h9
theorem up2_lt {cx : CX} {ad : Nat → Nat} {μ : Mem} {s : State} {H : Heap} {r j v : Nat} (hv : v < gN μ) (h : Wd cx ad μ s H) (a b : Nat) : up2 (gR μ) r j v a b < gN μ := by
  unfold up2
  split
  · exact hv
  · exact h.2.2.2.2.2.2.2.2.1 a b
section SH
variable {M : MI} {Qr : (Option Value ⊕ Nat) → Mem → Prop} {cells slots pc : Nat} {lv lv' : List (Option Value)} {st : List Value} {μ : Mem}
theorem S_getf {ci j idx r N : Nat} {C ref : String} {T : u_T} (hdg : decode M.cc pc = .ok (.getfield idx, 3)) (hk : gK μ r = ci + 1) (hc : ab_cl[ci]? = some (C, T, N)) (hj : j < N) (hin : ∀ w ∈ u_ws C T N, w ∈ ab_WA) (hlink : Cond.fieldLink M.own idx ref (T j).2.1 (T j).2.2.1 ∈ ab_WA) (href : (T j).1 = ref) (k : S M Qr cells slots (pc + 3) lv (ab_av μ r j (ab_ty ci j) :: st) μ) : S M Qr cells slots pc lv (.ref r :: st) μ := by
  intro cx ad0 n0 p l e s m args below meth c hx d0 ad H locs ls hd he hn hw hS hl hol hs
  obtain ⟨hN, h8⟩ := ab_cl_at hc
  have ho := own_c hk h8
  have h2 := k cx ad0 n0 p l e s m args below meth c hx d0 ad H locs ls hd he hn hw hS hl hol (ok_c (ok_av hw r j _) (ok_t1 hs))
  rw [List.map_cons, cv_av] at h2
  rw [List.map_cons, ab_own_ne hw ho]
  have he9 := hw.inl ho
  rw [ent_obj hk h8] at he9
  exact va_get (D := cx.D) hx.1 hx.2.1 (hx.tsd d0) hin (hx.ownd d0) (hw.Kd d0) hw.2.1 (r - 23) he9 hc j hj (hx.tsd d0 _ hlink) (fun x h => href ▸ h) (ab_fs_at (by rw [← hN]; exact hj)) hdg h2
theorem S_getfN {ci j idx r N : Nat} {C ref host : String} {T : u_T} (hdg : decode M.cc pc = .ok (.getfield idx, 3)) (hk : gK μ r = ci + 1) (hc : ab_cl[ci]? = some (C, T, N)) (hj : j < N) (hin : ∀ w ∈ u_ws C T N, w ∈ ab_WA) (hlink : Cond.fieldLinkNest M.own idx ref (T j).2.1 (T j).2.2.1 host ∈ ab_W2) (href : (T j).1 = ref) (k : S M Qr cells slots (pc + 3) lv (ab_av μ r j (ab_ty ci j) :: st) μ) : S M Qr cells slots pc lv (.ref r :: st) μ := by
  intro cx ad0 n0 p l e s m args below meth c hx d0 ad H locs ls hd he hn hw hS hl hol hs
  obtain ⟨hN, h8⟩ := ab_cl_at hc
  have ho := own_c hk h8
  have h2 := k cx ad0 n0 p l e s m args below meth c hx d0 ad H locs ls hd he hn hw hS hl hol (ok_c (ok_av hw r j _) (ok_t1 hs))
  rw [List.map_cons, cv_av] at h2
  rw [List.map_cons, ab_own_ne hw ho]
  have he9 := hw.inl ho
  rw [ent_obj hk h8] at he9
  exact va_getN (D := cx.D) hx.1 hx.2.1 (hx.tsd d0) hin (hx.ownd d0) (hw.Kd d0) hw.2.1 (r - 23) he9 hc j hj ((Cond.before_setDrawn args s d0 _).trans (hx.2.2.2.2.2.2.2.2.2.2.w2 hlink)) (fun x h => href ▸ h) (ab_fs_at (by rw [← hN]; exact hj)) hdg h2
theorem ent_stI {cx : CX} {ad : Nat → Nat} {μ : Mem} {r j : Nat} {v : Int32} {q : Nat} (h : q ≠ r) : ab_ent cx ad (stI μ r j v) q = ab_ent cx ad μ q := by
  have h1 : gI (stI μ r j v) q = gI μ q := up2_a _ _ _ h
  unfold ab_ent ab_fs ab_fv
  rw [h1]
  rfl
theorem ent_stR {cx : CX} {ad : Nat → Nat} {μ : Mem} {r j : Nat} {v : Nat} {q : Nat} (h : q ≠ r) : ab_ent cx ad (stR μ r j v) q = ab_ent cx ad μ q := by
  have h1 : gR (stR μ r j v) q = gR μ q := up2_a _ _ _ h
  unfold ab_ent ab_fs ab_fv
  rw [h1]
  rfl
theorem ent_stJ {cx : CX} {ad : Nat → Nat} {μ : Mem} {r j : Nat} {v : Int64} {q : Nat} (h : q ≠ r) : ab_ent cx ad (stJ μ r j v) q = ab_ent cx ad μ q := by
  have h1 : gJ (stJ μ r j v) q = gJ μ q := up2_a _ _ _ h
  unfold ab_ent ab_fs ab_fv
  rw [h1]
  rfl
theorem ent_stD {cx : CX} {ad : Nat → Nat} {μ : Mem} {r j : Nat} {v : UInt64} {q : Nat} (h : q ≠ r) : ab_ent cx ad (stD μ r j v) q = ab_ent cx ad μ q := by
  have h1 : gD (stD μ r j v) q = gD μ q := up2_a _ _ _ h
  unfold ab_ent ab_fs ab_fv
  rw [h1]
  rfl
theorem S_putI {ci j idx r N : Nat} {v : Int32} {C ref : String} {T : u_T} (hdg : decode M.cc pc = .ok (.putfield idx, 3)) (hk : gK μ r = ci + 1) (hc : ab_cl[ci]? = some (C, T, N)) (hj : j < N) (hin : ∀ w ∈ u_ws C T N, w ∈ ab_WA) (hty0 : ∀ k, k < N → parseFieldDescriptor (T k).2.2.1 = some (ab_ty ci k)) (hnm : ∀ a, a < N → ∀ b, b < N → a ≠ b → (T a).2.1 ≠ (T b).2.1) (hlink : Cond.fieldLink M.own idx ref (T j).2.1 (T j).2.2.1 ∈ ab_WA) (href : (T j).1 = ref) (hfin : (T j).2.2.2 = false)  (hty : ab_ty ci j = .int) (k : S M Qr cells slots (pc + 3) lv st (stI μ r j v)) : S M Qr cells slots pc lv (.int v :: .ref r :: st) μ := by
  intro cx ad0 n0 p l e s m args below meth c hx d0 ad H locs ls hd he hn hw hS hl hol hs
  obtain ⟨hN, h8⟩ := ab_cl_at hc
  have ho := own_c hk h8
  rw [List.map_cons, List.map_cons, ab_own_ne hw ho]
  have he9 := hw.inl ho
  rw [ent_obj hk h8] at he9
  have hj' : j < ab_n ci := by rw [← hN]; exact hj
  have h23 := (hw.2.2.2.2.1 r ho).1
  refine va_put (D := cx.D) (v := .int v) (ty := ab_ty ci j) hx.1 hx.2.1 (hx.tsd d0) hin (ab_ty ci) hty0 hnm (hx.ownd d0) (hw.Kd d0) hw.2.1 hw.2.2.1 hS (r - 23) he9 hc j hj (hx.tsd d0 _ hlink) (fun x h => href ▸ h) hfin  (hty0 j hj) (by rw [hty]; rfl) (by rw [hty]; rfl) (by rw [ab_fs_len]; exact hj') hdg fun H1 locs1 hP1 hD1 hS1 => ?_
  refine k cx ad0 n0 p l e s m args below meth c hx d0 ad H1 locs1 ls hd he hn (hw.chg ho rfl rfl rfl (up2_a _ _ _ (by omega)) hw.2.2.2.2.2.2.2.2.1 (fun a b hc9 => by rw [show gI (stI μ r j v) a = gI μ a from up2_a _ _ _ (fun hz => by rw [hz] at hc9; omega)]; exact hw.2.2.2.2.2.2.2.2.2 a b hc9) ((ent_obj (show gK (stI μ r j v) r = ci + 1 from hk) h8).trans ?_) (fun q hq => ent_stI hq) hP1 hD1) hS1 hl hol (ok_t2 hs)
  rw [ab_fs_set (j := j) (v := .int v) ?_ ?_]
  · simp [ab_fv, hty, cv, stI, gI, up2, cv_r]
  · intro k9 hk9
    unfold ab_fv; rw [show gI (stI μ r j v) r k9 = gI μ r k9 from up2_j _ _ _ hk9]; rfl
theorem S_putJ {ci j idx r N : Nat} {v : Int64} {C ref : String} {T : u_T} (hdg : decode M.cc pc = .ok (.putfield idx, 3)) (hk : gK μ r = ci + 1) (hc : ab_cl[ci]? = some (C, T, N)) (hj : j < N) (hin : ∀ w ∈ u_ws C T N, w ∈ ab_WA) (hty0 : ∀ k, k < N → parseFieldDescriptor (T k).2.2.1 = some (ab_ty ci k)) (hnm : ∀ a, a < N → ∀ b, b < N → a ≠ b → (T a).2.1 ≠ (T b).2.1) (hlink : Cond.fieldLink M.own idx ref (T j).2.1 (T j).2.2.1 ∈ ab_WA) (href : (T j).1 = ref) (hfin : (T j).2.2.2 = false)  (hty : ab_ty ci j = .long) (k : S M Qr cells slots (pc + 3) lv st (stJ μ r j v)) : S M Qr cells slots pc lv (.long v :: .ref r :: st) μ := by
  intro cx ad0 n0 p l e s m args below meth c hx d0 ad H locs ls hd he hn hw hS hl hol hs
  obtain ⟨hN, h8⟩ := ab_cl_at hc
  have ho := own_c hk h8
  rw [List.map_cons, List.map_cons, ab_own_ne hw ho]
  have he9 := hw.inl ho
  rw [ent_obj hk h8] at he9
  have hj' : j < ab_n ci := by rw [← hN]; exact hj
  have h23 := (hw.2.2.2.2.1 r ho).1
  refine va_put (D := cx.D) (v := .long v) (ty := ab_ty ci j) hx.1 hx.2.1 (hx.tsd d0) hin (ab_ty ci) hty0 hnm (hx.ownd d0) (hw.Kd d0) hw.2.1 hw.2.2.1 hS (r - 23) he9 hc j hj (hx.tsd d0 _ hlink) (fun x h => href ▸ h) hfin  (hty0 j hj) (by rw [hty]; rfl) (by rw [hty]; rfl) (by rw [ab_fs_len]; exact hj') hdg fun H1 locs1 hP1 hD1 hS1 => ?_
  refine k cx ad0 n0 p l e s m args below meth c hx d0 ad H1 locs1 ls hd he hn (hw.chg ho rfl rfl rfl rfl hw.2.2.2.2.2.2.2.2.1 hw.2.2.2.2.2.2.2.2.2 ((ent_obj (show gK (stJ μ r j v) r = ci + 1 from hk) h8).trans ?_) (fun q hq => ent_stJ hq) hP1 hD1) hS1 hl hol (ok_t2 hs)
  rw [ab_fs_set (j := j) (v := .long v) ?_ ?_]
  · simp [ab_fv, hty, stJ, gJ, up2]
  · intro k9 hk9
    unfold ab_fv; rw [show gJ (stJ μ r j v) r k9 = gJ μ r k9 from up2_j _ _ _ hk9]; rfl
theorem S_putR {ci j idx r N : Nat} {v : Nat} {C ref : String} {T : u_T} (hdg : decode M.cc pc = .ok (.putfield idx, 3)) (hk : gK μ r = ci + 1) (hc : ab_cl[ci]? = some (C, T, N)) (hj : j < N) (hin : ∀ w ∈ u_ws C T N, w ∈ ab_WA) (hty0 : ∀ k, k < N → parseFieldDescriptor (T k).2.2.1 = some (ab_ty ci k)) (hnm : ∀ a, a < N → ∀ b, b < N → a ≠ b → (T a).2.1 ≠ (T b).2.1) (hlink : Cond.fieldLink M.own idx ref (T j).2.1 (T j).2.2.1 ∈ ab_WA) (href : (T j).1 = ref) (hfin : (T j).2.2.2 = false)  (hty : (∃ n, ab_ty ci j = .object n) ∨ ∃ t, ab_ty ci j = .array t) (k : S M Qr cells slots (pc + 3) lv st (stR μ r j v)) : S M Qr cells slots pc lv (.ref v :: .ref r :: st) μ := by
  intro cx ad0 n0 p l e s m args below meth c hx d0 ad H locs ls hd he hn hw hS hl hol hs
  obtain ⟨hN, h8⟩ := ab_cl_at hc
  have ho := own_c hk h8
  rw [List.map_cons, List.map_cons, ab_own_ne hw ho]
  have he9 := hw.inl ho
  rw [ent_obj hk h8] at he9
  have hj' : j < ab_n ci := by rw [← hN]; exact hj
  have h23 := (hw.2.2.2.2.1 r ho).1
  refine va_put (D := cx.D) (v := cv ad (.ref v)) (ty := ab_ty ci j) hx.1 hx.2.1 (hx.tsd d0) hin (ab_ty ci) hty0 hnm (hx.ownd d0) (hw.Kd d0) hw.2.1 hw.2.2.1 hS (r - 23) he9 hc j hj (hx.tsd d0 _ hlink) (fun x h => href ▸ h) hfin  (hty0 j hj) (by rcases hty with ⟨n9, hty⟩ | ⟨t9, hty⟩ <;> rw [hty] <;> (simp only [cv, cv_r]; split <;> rfl)) (by rcases hty with ⟨n9, hty⟩ | ⟨t9, hty⟩ <;> rw [hty] <;> (simp only [cv, cv_r]; split <;> rfl)) (by rw [ab_fs_len]; exact hj') hdg fun H1 locs1 hP1 hD1 hS1 => ?_
  refine k cx ad0 n0 p l e s m args below meth c hx d0 ad H1 locs1 ls hd he hn (hw.chg ho rfl rfl rfl rfl (fun a b => up2_lt (ok_h hs) hw a b) hw.2.2.2.2.2.2.2.2.2 ((ent_obj (show gK (stR μ r j v) r = ci + 1 from hk) h8).trans ?_) (fun q hq => ent_stR hq) hP1 hD1) hS1 hl hol (ok_t2 hs)
  rw [ab_fs_set (j := j) (v := cv ad (.ref v)) ?_ ?_]
  · rcases hty with ⟨n9, hty⟩ | ⟨t9, hty⟩ <;> simp [ab_fv, hty, stR, gR, up2, cv]
  · intro k9 hk9
    unfold ab_fv; rw [show gR (stR μ r j v) r k9 = gR μ r k9 from up2_j _ _ _ hk9]; rfl
theorem S_putZ {ci j idx r N : Nat} {v : Int32} {C ref : String} {T : u_T} (hdg : decode M.cc pc = .ok (.putfield idx, 3)) (hk : gK μ r = ci + 1) (hc : ab_cl[ci]? = some (C, T, N)) (hj : j < N) (hin : ∀ w ∈ u_ws C T N, w ∈ ab_WA) (hty0 : ∀ k, k < N → parseFieldDescriptor (T k).2.2.1 = some (ab_ty ci k)) (hnm : ∀ a, a < N → ∀ b, b < N → a ≠ b → (T a).2.1 ≠ (T b).2.1) (hlink : Cond.fieldLink M.own idx ref (T j).2.1 (T j).2.2.1 ∈ ab_WA) (href : (T j).1 = ref) (hfin : (T j).2.2.2 = false)  (hty : ab_ty ci j = .boolean) (hv01 : v = 0 ∨ v = 1) (k : S M Qr cells slots (pc + 3) lv st (stI μ r j v)) : S M Qr cells slots pc lv (.int v :: .ref r :: st) μ := by
  intro cx ad0 n0 p l e s m args below meth c hx d0 ad H locs ls hd he hn hw hS hl hol hs
  obtain ⟨hN, h8⟩ := ab_cl_at hc
  have ho := own_c hk h8
  rw [List.map_cons, List.map_cons, ab_own_ne hw ho]
  have he9 := hw.inl ho
  rw [ent_obj hk h8] at he9
  have hj' : j < ab_n ci := by rw [← hN]; exact hj
  have h23 := (hw.2.2.2.2.1 r ho).1
  refine va_put (D := cx.D) (v := .int v) (ty := ab_ty ci j) hx.1 hx.2.1 (hx.tsd d0) hin (ab_ty ci) hty0 hnm (hx.ownd d0) (hw.Kd d0) hw.2.1 hw.2.2.1 hS (r - 23) he9 hc j hj (hx.tsd d0 _ hlink) (fun x h => href ▸ h) hfin  (hty0 j hj) (by rw [hty]; rcases hv01 with rfl | rfl <;> decide) (by rw [hty]; rcases hv01 with rfl | rfl <;> decide) (by rw [ab_fs_len]; exact hj') hdg fun H1 locs1 hP1 hD1 hS1 => ?_
  refine k cx ad0 n0 p l e s m args below meth c hx d0 ad H1 locs1 ls hd he hn (hw.chg ho rfl rfl rfl (up2_a _ _ _ (by omega)) hw.2.2.2.2.2.2.2.2.1 (fun a b hc9 => by rw [show gI (stI μ r j v) a = gI μ a from up2_a _ _ _ (fun hz => by rw [hz] at hc9; omega)]; exact hw.2.2.2.2.2.2.2.2.2 a b hc9) ((ent_obj (show gK (stI μ r j v) r = ci + 1 from hk) h8).trans ?_) (fun q hq => ent_stI hq) hP1 hD1) hS1 hl hol (ok_t2 hs)
  rw [ab_fs_set (j := j) (v := .int v) ?_ ?_]
  · simp [ab_fv, hty, cv, stI, gI, up2, cv_r]
  · intro k9 hk9
    unfold ab_fv; rw [show gI (stI μ r j v) r k9 = gI μ r k9 from up2_j _ _ _ hk9]; rfl
theorem S_putIN {ci j idx r N : Nat} {v : Int32} {C ref host : String} {T : u_T} (hdg : decode M.cc pc = .ok (.putfield idx, 3)) (hk : gK μ r = ci + 1) (hc : ab_cl[ci]? = some (C, T, N)) (hj : j < N) (hin : ∀ w ∈ u_ws C T N, w ∈ ab_WA) (hty0 : ∀ k, k < N → parseFieldDescriptor (T k).2.2.1 = some (ab_ty ci k)) (hnm : ∀ a, a < N → ∀ b, b < N → a ≠ b → (T a).2.1 ≠ (T b).2.1) (hlink : Cond.fieldLinkNest M.own idx ref (T j).2.1 (T j).2.2.1 host ∈ ab_W2) (href : (T j).1 = ref) (hfin : (T j).2.2.2 = false)  (hty : ab_ty ci j = .int) (k : S M Qr cells slots (pc + 3) lv st (stI μ r j v)) : S M Qr cells slots pc lv (.int v :: .ref r :: st) μ := by
  intro cx ad0 n0 p l e s m args below meth c hx d0 ad H locs ls hd he hn hw hS hl hol hs
  obtain ⟨hN, h8⟩ := ab_cl_at hc
  have ho := own_c hk h8
  rw [List.map_cons, List.map_cons, ab_own_ne hw ho]
  have he9 := hw.inl ho
  rw [ent_obj hk h8] at he9
  have hj' : j < ab_n ci := by rw [← hN]; exact hj
  have h23 := (hw.2.2.2.2.1 r ho).1
  refine va_putN (D := cx.D) (v := .int v) (ty := ab_ty ci j) hx.1 hx.2.1 (hx.tsd d0) hin (ab_ty ci) hty0 hnm (hx.ownd d0) (hw.Kd d0) hw.2.1 hw.2.2.1 hS (r - 23) he9 hc j hj ((Cond.before_setDrawn args s d0 _).trans (hx.2.2.2.2.2.2.2.2.2.2.w2 hlink)) (fun x h => href ▸ h) hfin  (hty0 j hj) (by rw [hty]; rfl) (by rw [hty]; rfl) (by rw [ab_fs_len]; exact hj') hdg fun H1 locs1 hP1 hD1 hS1 => ?_
  refine k cx ad0 n0 p l e s m args below meth c hx d0 ad H1 locs1 ls hd he hn (hw.chg ho rfl rfl rfl (up2_a _ _ _ (by omega)) hw.2.2.2.2.2.2.2.2.1 (fun a b hc9 => by rw [show gI (stI μ r j v) a = gI μ a from up2_a _ _ _ (fun hz => by rw [hz] at hc9; omega)]; exact hw.2.2.2.2.2.2.2.2.2 a b hc9) ((ent_obj (show gK (stI μ r j v) r = ci + 1 from hk) h8).trans ?_) (fun q hq => ent_stI hq) hP1 hD1) hS1 hl hol (ok_t2 hs)
  rw [ab_fs_set (j := j) (v := .int v) ?_ ?_]
  · simp [ab_fv, hty, cv, stI, gI, up2, cv_r]
  · intro k9 hk9
    unfold ab_fv; rw [show gI (stI μ r j v) r k9 = gI μ r k9 from up2_j _ _ _ hk9]; rfl
theorem S_putJN {ci j idx r N : Nat} {v : Int64} {C ref host : String} {T : u_T} (hdg : decode M.cc pc = .ok (.putfield idx, 3)) (hk : gK μ r = ci + 1) (hc : ab_cl[ci]? = some (C, T, N)) (hj : j < N) (hin : ∀ w ∈ u_ws C T N, w ∈ ab_WA) (hty0 : ∀ k, k < N → parseFieldDescriptor (T k).2.2.1 = some (ab_ty ci k)) (hnm : ∀ a, a < N → ∀ b, b < N → a ≠ b → (T a).2.1 ≠ (T b).2.1) (hlink : Cond.fieldLinkNest M.own idx ref (T j).2.1 (T j).2.2.1 host ∈ ab_W2) (href : (T j).1 = ref) (hfin : (T j).2.2.2 = false)  (hty : ab_ty ci j = .long) (k : S M Qr cells slots (pc + 3) lv st (stJ μ r j v)) : S M Qr cells slots pc lv (.long v :: .ref r :: st) μ := by
  intro cx ad0 n0 p l e s m args below meth c hx d0 ad H locs ls hd he hn hw hS hl hol hs
  obtain ⟨hN, h8⟩ := ab_cl_at hc
  have ho := own_c hk h8
  rw [List.map_cons, List.map_cons, ab_own_ne hw ho]
  have he9 := hw.inl ho
  rw [ent_obj hk h8] at he9
  have hj' : j < ab_n ci := by rw [← hN]; exact hj
  have h23 := (hw.2.2.2.2.1 r ho).1
  refine va_putN (D := cx.D) (v := .long v) (ty := ab_ty ci j) hx.1 hx.2.1 (hx.tsd d0) hin (ab_ty ci) hty0 hnm (hx.ownd d0) (hw.Kd d0) hw.2.1 hw.2.2.1 hS (r - 23) he9 hc j hj ((Cond.before_setDrawn args s d0 _).trans (hx.2.2.2.2.2.2.2.2.2.2.w2 hlink)) (fun x h => href ▸ h) hfin  (hty0 j hj) (by rw [hty]; rfl) (by rw [hty]; rfl) (by rw [ab_fs_len]; exact hj') hdg fun H1 locs1 hP1 hD1 hS1 => ?_
  refine k cx ad0 n0 p l e s m args below meth c hx d0 ad H1 locs1 ls hd he hn (hw.chg ho rfl rfl rfl rfl hw.2.2.2.2.2.2.2.2.1 hw.2.2.2.2.2.2.2.2.2 ((ent_obj (show gK (stJ μ r j v) r = ci + 1 from hk) h8).trans ?_) (fun q hq => ent_stJ hq) hP1 hD1) hS1 hl hol (ok_t2 hs)
  rw [ab_fs_set (j := j) (v := .long v) ?_ ?_]
  · simp [ab_fv, hty, stJ, gJ, up2]
  · intro k9 hk9
    unfold ab_fv; rw [show gJ (stJ μ r j v) r k9 = gJ μ r k9 from up2_j _ _ _ hk9]; rfl
theorem S_putRN {ci j idx r N : Nat} {v : Nat} {C ref host : String} {T : u_T} (hdg : decode M.cc pc = .ok (.putfield idx, 3)) (hk : gK μ r = ci + 1) (hc : ab_cl[ci]? = some (C, T, N)) (hj : j < N) (hin : ∀ w ∈ u_ws C T N, w ∈ ab_WA) (hty0 : ∀ k, k < N → parseFieldDescriptor (T k).2.2.1 = some (ab_ty ci k)) (hnm : ∀ a, a < N → ∀ b, b < N → a ≠ b → (T a).2.1 ≠ (T b).2.1) (hlink : Cond.fieldLinkNest M.own idx ref (T j).2.1 (T j).2.2.1 host ∈ ab_W2) (href : (T j).1 = ref) (hfin : (T j).2.2.2 = false)  (hty : (∃ n, ab_ty ci j = .object n) ∨ ∃ t, ab_ty ci j = .array t) (k : S M Qr cells slots (pc + 3) lv st (stR μ r j v)) : S M Qr cells slots pc lv (.ref v :: .ref r :: st) μ := by
  intro cx ad0 n0 p l e s m args below meth c hx d0 ad H locs ls hd he hn hw hS hl hol hs
  obtain ⟨hN, h8⟩ := ab_cl_at hc
  have ho := own_c hk h8
  rw [List.map_cons, List.map_cons, ab_own_ne hw ho]
  have he9 := hw.inl ho
  rw [ent_obj hk h8] at he9
  have hj' : j < ab_n ci := by rw [← hN]; exact hj
  have h23 := (hw.2.2.2.2.1 r ho).1
  refine va_putN (D := cx.D) (v := cv ad (.ref v)) (ty := ab_ty ci j) hx.1 hx.2.1 (hx.tsd d0) hin (ab_ty ci) hty0 hnm (hx.ownd d0) (hw.Kd d0) hw.2.1 hw.2.2.1 hS (r - 23) he9 hc j hj ((Cond.before_setDrawn args s d0 _).trans (hx.2.2.2.2.2.2.2.2.2.2.w2 hlink)) (fun x h => href ▸ h) hfin  (hty0 j hj) (by rcases hty with ⟨n9, hty⟩ | ⟨t9, hty⟩ <;> rw [hty] <;> (simp only [cv, cv_r]; split <;> rfl)) (by rcases hty with ⟨n9, hty⟩ | ⟨t9, hty⟩ <;> rw [hty] <;> (simp only [cv, cv_r]; split <;> rfl)) (by rw [ab_fs_len]; exact hj') hdg fun H1 locs1 hP1 hD1 hS1 => ?_
  refine k cx ad0 n0 p l e s m args below meth c hx d0 ad H1 locs1 ls hd he hn (hw.chg ho rfl rfl rfl rfl (fun a b => up2_lt (ok_h hs) hw a b) hw.2.2.2.2.2.2.2.2.2 ((ent_obj (show gK (stR μ r j v) r = ci + 1 from hk) h8).trans ?_) (fun q hq => ent_stR hq) hP1 hD1) hS1 hl hol (ok_t2 hs)
  rw [ab_fs_set (j := j) (v := cv ad (.ref v)) ?_ ?_]
  · rcases hty with ⟨n9, hty⟩ | ⟨t9, hty⟩ <;> simp [ab_fv, hty, stR, gR, up2, cv]
  · intro k9 hk9
    unfold ab_fv; rw [show gR (stR μ r j v) r k9 = gR μ r k9 from up2_j _ _ _ hk9]; rfl
theorem S_putZN {ci j idx r N : Nat} {v : Int32} {C ref host : String} {T : u_T} (hdg : decode M.cc pc = .ok (.putfield idx, 3)) (hk : gK μ r = ci + 1) (hc : ab_cl[ci]? = some (C, T, N)) (hj : j < N) (hin : ∀ w ∈ u_ws C T N, w ∈ ab_WA) (hty0 : ∀ k, k < N → parseFieldDescriptor (T k).2.2.1 = some (ab_ty ci k)) (hnm : ∀ a, a < N → ∀ b, b < N → a ≠ b → (T a).2.1 ≠ (T b).2.1) (hlink : Cond.fieldLinkNest M.own idx ref (T j).2.1 (T j).2.2.1 host ∈ ab_W2) (href : (T j).1 = ref) (hfin : (T j).2.2.2 = false)  (hty : ab_ty ci j = .boolean) (hv01 : v = 0 ∨ v = 1) (k : S M Qr cells slots (pc + 3) lv st (stI μ r j v)) : S M Qr cells slots pc lv (.int v :: .ref r :: st) μ := by
  intro cx ad0 n0 p l e s m args below meth c hx d0 ad H locs ls hd he hn hw hS hl hol hs
  obtain ⟨hN, h8⟩ := ab_cl_at hc
  have ho := own_c hk h8
  rw [List.map_cons, List.map_cons, ab_own_ne hw ho]
  have he9 := hw.inl ho
  rw [ent_obj hk h8] at he9
  have hj' : j < ab_n ci := by rw [← hN]; exact hj
  have h23 := (hw.2.2.2.2.1 r ho).1
  refine va_putN (D := cx.D) (v := .int v) (ty := ab_ty ci j) hx.1 hx.2.1 (hx.tsd d0) hin (ab_ty ci) hty0 hnm (hx.ownd d0) (hw.Kd d0) hw.2.1 hw.2.2.1 hS (r - 23) he9 hc j hj ((Cond.before_setDrawn args s d0 _).trans (hx.2.2.2.2.2.2.2.2.2.2.w2 hlink)) (fun x h => href ▸ h) hfin  (hty0 j hj) (by rw [hty]; rcases hv01 with rfl | rfl <;> decide) (by rw [hty]; rcases hv01 with rfl | rfl <;> decide) (by rw [ab_fs_len]; exact hj') hdg fun H1 locs1 hP1 hD1 hS1 => ?_
  refine k cx ad0 n0 p l e s m args below meth c hx d0 ad H1 locs1 ls hd he hn (hw.chg ho rfl rfl rfl (up2_a _ _ _ (by omega)) hw.2.2.2.2.2.2.2.2.1 (fun a b hc9 => by rw [show gI (stI μ r j v) a = gI μ a from up2_a _ _ _ (fun hz => by rw [hz] at hc9; omega)]; exact hw.2.2.2.2.2.2.2.2.2 a b hc9) ((ent_obj (show gK (stI μ r j v) r = ci + 1 from hk) h8).trans ?_) (fun q hq => ent_stI hq) hP1 hD1) hS1 hl hol (ok_t2 hs)
  rw [ab_fs_set (j := j) (v := .int v) ?_ ?_]
  · simp [ab_fv, hty, cv, stI, gI, up2, cv_r]
  · intro k9 hk9
    unfold ab_fv; rw [show gI (stI μ r j v) r k9 = gI μ r k9 from up2_j _ _ _ hk9]; rfl
theorem S_putIF {ci j idx r N : Nat} {v : Int32} {C ref : String} {T : u_T} (hdg : decode M.cc pc = .ok (.putfield idx, 3)) (hk : gK μ r = ci + 1) (hc : ab_cl[ci]? = some (C, T, N)) (hj : j < N) (hin : ∀ w ∈ u_ws C T N, w ∈ ab_WA) (hty0 : ∀ k, k < N → parseFieldDescriptor (T k).2.2.1 = some (ab_ty ci k)) (hnm : ∀ a, a < N → ∀ b, b < N → a ≠ b → (T a).2.1 ≠ (T b).2.1) (hlink : Cond.fieldLink M.own idx ref (T j).2.1 (T j).2.2.1 ∈ ab_WA) (href : (T j).1 = ref) (hfin : (T j).2.2.2 = true) (hini : M.y.name = "<init>") (hdec : (T j).1 = M.own) (hty : ab_ty ci j = .int) (k : S M Qr cells slots (pc + 3) lv st (stI μ r j v)) : S M Qr cells slots pc lv (.int v :: .ref r :: st) μ := by
  intro cx ad0 n0 p l e s m args below meth c hx d0 ad H locs ls hd he hn hw hS hl hol hs
  obtain ⟨hN, h8⟩ := ab_cl_at hc
  have ho := own_c hk h8
  rw [List.map_cons, List.map_cons, ab_own_ne hw ho]
  have he9 := hw.inl ho
  rw [ent_obj hk h8] at he9
  have hj' : j < ab_n ci := by rw [← hN]; exact hj
  have h23 := (hw.2.2.2.2.1 r ho).1
  refine va_putF (D := cx.D) (v := .int v) (ty := ab_ty ci j) hx.1 hx.2.1 (hx.tsd d0) hin (ab_ty ci) hty0 hnm (hx.ownd d0) (hw.Kd d0) hw.2.1 hw.2.2.1 hS (r - 23) he9 hc j hj (hx.tsd d0 _ hlink) (fun x h => href ▸ h) hfin (hx.2.2.2.2.2.2.2.2.2.1.trans hini) hdec (hty0 j hj) (by rw [hty]; rfl) (by rw [hty]; rfl) (by rw [ab_fs_len]; exact hj') hdg fun H1 locs1 hP1 hD1 hS1 => ?_
  refine k cx ad0 n0 p l e s m args below meth c hx d0 ad H1 locs1 ls hd he hn (hw.chg ho rfl rfl rfl (up2_a _ _ _ (by omega)) hw.2.2.2.2.2.2.2.2.1 (fun a b hc9 => by rw [show gI (stI μ r j v) a = gI μ a from up2_a _ _ _ (fun hz => by rw [hz] at hc9; omega)]; exact hw.2.2.2.2.2.2.2.2.2 a b hc9) ((ent_obj (show gK (stI μ r j v) r = ci + 1 from hk) h8).trans ?_) (fun q hq => ent_stI hq) hP1 hD1) hS1 hl hol (ok_t2 hs)
  rw [ab_fs_set (j := j) (v := .int v) ?_ ?_]
  · simp [ab_fv, hty, cv, stI, gI, up2, cv_r]
  · intro k9 hk9
    unfold ab_fv; rw [show gI (stI μ r j v) r k9 = gI μ r k9 from up2_j _ _ _ hk9]; rfl
theorem S_putJF {ci j idx r N : Nat} {v : Int64} {C ref : String} {T : u_T} (hdg : decode M.cc pc = .ok (.putfield idx, 3)) (hk : gK μ r = ci + 1) (hc : ab_cl[ci]? = some (C, T, N)) (hj : j < N) (hin : ∀ w ∈ u_ws C T N, w ∈ ab_WA) (hty0 : ∀ k, k < N → parseFieldDescriptor (T k).2.2.1 = some (ab_ty ci k)) (hnm : ∀ a, a < N → ∀ b, b < N → a ≠ b → (T a).2.1 ≠ (T b).2.1) (hlink : Cond.fieldLink M.own idx ref (T j).2.1 (T j).2.2.1 ∈ ab_WA) (href : (T j).1 = ref) (hfin : (T j).2.2.2 = true) (hini : M.y.name = "<init>") (hdec : (T j).1 = M.own) (hty : ab_ty ci j = .long) (k : S M Qr cells slots (pc + 3) lv st (stJ μ r j v)) : S M Qr cells slots pc lv (.long v :: .ref r :: st) μ := by
  intro cx ad0 n0 p l e s m args below meth c hx d0 ad H locs ls hd he hn hw hS hl hol hs
  obtain ⟨hN, h8⟩ := ab_cl_at hc
  have ho := own_c hk h8
  rw [List.map_cons, List.map_cons, ab_own_ne hw ho]
  have he9 := hw.inl ho
  rw [ent_obj hk h8] at he9
  have hj' : j < ab_n ci := by rw [← hN]; exact hj
  have h23 := (hw.2.2.2.2.1 r ho).1
  refine va_putF (D := cx.D) (v := .long v) (ty := ab_ty ci j) hx.1 hx.2.1 (hx.tsd d0) hin (ab_ty ci) hty0 hnm (hx.ownd d0) (hw.Kd d0) hw.2.1 hw.2.2.1 hS (r - 23) he9 hc j hj (hx.tsd d0 _ hlink) (fun x h => href ▸ h) hfin (hx.2.2.2.2.2.2.2.2.2.1.trans hini) hdec (hty0 j hj) (by rw [hty]; rfl) (by rw [hty]; rfl) (by rw [ab_fs_len]; exact hj') hdg fun H1 locs1 hP1 hD1 hS1 => ?_
  refine k cx ad0 n0 p l e s m args below meth c hx d0 ad H1 locs1 ls hd he hn (hw.chg ho rfl rfl rfl rfl hw.2.2.2.2.2.2.2.2.1 hw.2.2.2.2.2.2.2.2.2 ((ent_obj (show gK (stJ μ r j v) r = ci + 1 from hk) h8).trans ?_) (fun q hq => ent_stJ hq) hP1 hD1) hS1 hl hol (ok_t2 hs)
  rw [ab_fs_set (j := j) (v := .long v) ?_ ?_]
  · simp [ab_fv, hty, stJ, gJ, up2]
  · intro k9 hk9
    unfold ab_fv; rw [show gJ (stJ μ r j v) r k9 = gJ μ r k9 from up2_j _ _ _ hk9]; rfl
theorem S_putRF {ci j idx r N : Nat} {v : Nat} {C ref : String} {T : u_T} (hdg : decode M.cc pc = .ok (.putfield idx, 3)) (hk : gK μ r = ci + 1) (hc : ab_cl[ci]? = some (C, T, N)) (hj : j < N) (hin : ∀ w ∈ u_ws C T N, w ∈ ab_WA) (hty0 : ∀ k, k < N → parseFieldDescriptor (T k).2.2.1 = some (ab_ty ci k)) (hnm : ∀ a, a < N → ∀ b, b < N → a ≠ b → (T a).2.1 ≠ (T b).2.1) (hlink : Cond.fieldLink M.own idx ref (T j).2.1 (T j).2.2.1 ∈ ab_WA) (href : (T j).1 = ref) (hfin : (T j).2.2.2 = true) (hini : M.y.name = "<init>") (hdec : (T j).1 = M.own) (hty : (∃ n, ab_ty ci j = .object n) ∨ ∃ t, ab_ty ci j = .array t) (k : S M Qr cells slots (pc + 3) lv st (stR μ r j v)) : S M Qr cells slots pc lv (.ref v :: .ref r :: st) μ := by
  intro cx ad0 n0 p l e s m args below meth c hx d0 ad H locs ls hd he hn hw hS hl hol hs
  obtain ⟨hN, h8⟩ := ab_cl_at hc
  have ho := own_c hk h8
  rw [List.map_cons, List.map_cons, ab_own_ne hw ho]
  have he9 := hw.inl ho
  rw [ent_obj hk h8] at he9
  have hj' : j < ab_n ci := by rw [← hN]; exact hj
  have h23 := (hw.2.2.2.2.1 r ho).1
  refine va_putF (D := cx.D) (v := cv ad (.ref v)) (ty := ab_ty ci j) hx.1 hx.2.1 (hx.tsd d0) hin (ab_ty ci) hty0 hnm (hx.ownd d0) (hw.Kd d0) hw.2.1 hw.2.2.1 hS (r - 23) he9 hc j hj (hx.tsd d0 _ hlink) (fun x h => href ▸ h) hfin (hx.2.2.2.2.2.2.2.2.2.1.trans hini) hdec (hty0 j hj) (by rcases hty with ⟨n9, hty⟩ | ⟨t9, hty⟩ <;> rw [hty] <;> (simp only [cv, cv_r]; split <;> rfl)) (by rcases hty with ⟨n9, hty⟩ | ⟨t9, hty⟩ <;> rw [hty] <;> (simp only [cv, cv_r]; split <;> rfl)) (by rw [ab_fs_len]; exact hj') hdg fun H1 locs1 hP1 hD1 hS1 => ?_
  refine k cx ad0 n0 p l e s m args below meth c hx d0 ad H1 locs1 ls hd he hn (hw.chg ho rfl rfl rfl rfl (fun a b => up2_lt (ok_h hs) hw a b) hw.2.2.2.2.2.2.2.2.2 ((ent_obj (show gK (stR μ r j v) r = ci + 1 from hk) h8).trans ?_) (fun q hq => ent_stR hq) hP1 hD1) hS1 hl hol (ok_t2 hs)
  rw [ab_fs_set (j := j) (v := cv ad (.ref v)) ?_ ?_]
  · rcases hty with ⟨n9, hty⟩ | ⟨t9, hty⟩ <;> simp [ab_fv, hty, stR, gR, up2, cv]
  · intro k9 hk9
    unfold ab_fv; rw [show gR (stR μ r j v) r k9 = gR μ r k9 from up2_j _ _ _ hk9]; rfl
theorem S_putZF {ci j idx r N : Nat} {v : Int32} {C ref : String} {T : u_T} (hdg : decode M.cc pc = .ok (.putfield idx, 3)) (hk : gK μ r = ci + 1) (hc : ab_cl[ci]? = some (C, T, N)) (hj : j < N) (hin : ∀ w ∈ u_ws C T N, w ∈ ab_WA) (hty0 : ∀ k, k < N → parseFieldDescriptor (T k).2.2.1 = some (ab_ty ci k)) (hnm : ∀ a, a < N → ∀ b, b < N → a ≠ b → (T a).2.1 ≠ (T b).2.1) (hlink : Cond.fieldLink M.own idx ref (T j).2.1 (T j).2.2.1 ∈ ab_WA) (href : (T j).1 = ref) (hfin : (T j).2.2.2 = true) (hini : M.y.name = "<init>") (hdec : (T j).1 = M.own) (hty : ab_ty ci j = .boolean) (hv01 : v = 0 ∨ v = 1) (k : S M Qr cells slots (pc + 3) lv st (stI μ r j v)) : S M Qr cells slots pc lv (.int v :: .ref r :: st) μ := by
  intro cx ad0 n0 p l e s m args below meth c hx d0 ad H locs ls hd he hn hw hS hl hol hs
  obtain ⟨hN, h8⟩ := ab_cl_at hc
  have ho := own_c hk h8
  rw [List.map_cons, List.map_cons, ab_own_ne hw ho]
  have he9 := hw.inl ho
  rw [ent_obj hk h8] at he9
  have hj' : j < ab_n ci := by rw [← hN]; exact hj
  have h23 := (hw.2.2.2.2.1 r ho).1
  refine va_putF (D := cx.D) (v := .int v) (ty := ab_ty ci j) hx.1 hx.2.1 (hx.tsd d0) hin (ab_ty ci) hty0 hnm (hx.ownd d0) (hw.Kd d0) hw.2.1 hw.2.2.1 hS (r - 23) he9 hc j hj (hx.tsd d0 _ hlink) (fun x h => href ▸ h) hfin (hx.2.2.2.2.2.2.2.2.2.1.trans hini) hdec (hty0 j hj) (by rw [hty]; rcases hv01 with rfl | rfl <;> decide) (by rw [hty]; rcases hv01 with rfl | rfl <;> decide) (by rw [ab_fs_len]; exact hj') hdg fun H1 locs1 hP1 hD1 hS1 => ?_
  refine k cx ad0 n0 p l e s m args below meth c hx d0 ad H1 locs1 ls hd he hn (hw.chg ho rfl rfl rfl (up2_a _ _ _ (by omega)) hw.2.2.2.2.2.2.2.2.1 (fun a b hc9 => by rw [show gI (stI μ r j v) a = gI μ a from up2_a _ _ _ (fun hz => by rw [hz] at hc9; omega)]; exact hw.2.2.2.2.2.2.2.2.2 a b hc9) ((ent_obj (show gK (stI μ r j v) r = ci + 1 from hk) h8).trans ?_) (fun q hq => ent_stI hq) hP1 hD1) hS1 hl hol (ok_t2 hs)
  rw [ab_fs_set (j := j) (v := .int v) ?_ ?_]
  · simp [ab_fv, hty, cv, stI, gI, up2, cv_r]
  · intro k9 hk9
    unfold ab_fv; rw [show gI (stI μ r j v) r k9 = gI μ r k9 from up2_j _ _ _ hk9]; rfl
abbrev inb (i : Int32) (n : Nat) : Prop := 0 ≤ i.toInt ∧ i.toInt < (n : Int)
theorem inb_vp {i : Int32} {n : Nat} (h : inb i n) : vp_in i n := vp_in_iff.mpr h
theorem S_iald {r : Nat} {i : Int32} (hdg : decode M.cc pc = .ok (.iaload, 1)) (hk : gK μ r = 101) (hin : inb i (gL μ r)) (k : S M Qr cells slots (pc + 1) lv (.int (gI μ r i.toNatClampNeg) :: st) μ) : S M Qr cells slots pc lv (.int i :: .ref r :: st) μ := by
  intro cx ad0 n0 p l e s m args below meth c hx d0 ad H locs ls hd he hn hw hS hl hol hs
  have ho := own_a (j := 0) hk (by omega)
  rw [List.map_cons, List.map_cons, ab_own_ne hw ho]
  have he9 := hw.inl ho
  rw [ent_arr0 hk] at he9
  exact va_iald (D := cx.D) hx.1 hx.2.1 (hw.Kd d0) hw.2.1 (r - 23) 0 he9 rfl (inb_vp hin) hdg (k cx ad0 n0 p l e s m args below meth c hx d0 ad H locs ls hd he hn hw hS hl hol (ok_c trivial (ok_t2 hs)))
theorem S_lald {r : Nat} {i : Int32} (hdg : decode M.cc pc = .ok (.laload, 1)) (hk : gK μ r = 102) (hin : inb i (gL μ r)) (k : S M Qr cells slots (pc + 1) lv (.long (gJ μ r i.toNatClampNeg) :: st) μ) : S M Qr cells slots pc lv (.int i :: .ref r :: st) μ := by
  intro cx ad0 n0 p l e s m args below meth c hx d0 ad H locs ls hd he hn hw hS hl hol hs
  have ho := own_a (j := 1) hk (by omega)
  rw [List.map_cons, List.map_cons, ab_own_ne hw ho]
  have he9 := hw.inl ho
  rw [ent_arr1 hk] at he9
  exact va_lald (D := cx.D) hx.1 hx.2.1 (hw.Kd d0) hw.2.1 (r - 23) 1 he9 rfl (inb_vp hin) hdg (k cx ad0 n0 p l e s m args below meth c hx d0 ad H locs ls hd he hn hw hS hl hol (ok_c trivial (ok_t2 hs)))
theorem S_dald {r : Nat} {i : Int32} (hdg : decode M.cc pc = .ok (.daload, 1)) (hk : gK μ r = 104) (hin : inb i (gL μ r)) (k : S M Qr cells slots (pc + 1) lv (.double (gD μ r i.toNatClampNeg) :: st) μ) : S M Qr cells slots pc lv (.int i :: .ref r :: st) μ := by
  intro cx ad0 n0 p l e s m args below meth c hx d0 ad H locs ls hd he hn hw hS hl hol hs
  have ho := own_a (j := 3) hk (by omega)
  rw [List.map_cons, List.map_cons, ab_own_ne hw ho]
  have he9 := hw.inl ho
  rw [ent_arr3 hk] at he9
  exact va_dald (D := cx.D) hx.1 hx.2.1 (hw.Kd d0) hw.2.1 (r - 23) 3 he9 rfl (inb_vp hin) hdg (k cx ad0 n0 p l e s m args below meth c hx d0 ad H locs ls hd he hn hw hS hl hol (ok_c trivial (ok_t2 hs)))
theorem S_zald {r : Nat} {i : Int32} (hdg : decode M.cc pc = .ok (.baload, 1)) (hk : gK μ r = 103) (hin : inb i (gL μ r)) (k : (gI μ r i.toNatClampNeg = 0 ∨ gI μ r i.toNatClampNeg = 1) → S M Qr cells slots (pc + 1) lv (.int (gI μ r i.toNatClampNeg) :: st) μ) : S M Qr cells slots pc lv (.int i :: .ref r :: st) μ := by
  intro cx ad0 n0 p l e s m args below meth c hx d0 ad H locs ls hd he hn hw hS hl hol hs
  have ho := own_a (j := 2) hk (by omega)
  rw [List.map_cons, List.map_cons, ab_own_ne hw ho]
  have he9 := hw.inl ho
  rw [ent_arr2 hk] at he9
  exact va_zald (D := cx.D) hx.1 hx.2.1 (hw.Kd d0) hw.2.1 (r - 23) 2 he9 rfl (inb_vp hin) hdg (k (hw.2.2.2.2.2.2.2.2.2 r _ hk) cx ad0 n0 p l e s m args below meth c hx d0 ad H locs ls hd he hn hw hS hl hol (ok_c trivial (ok_t2 hs)))
theorem S_aald {r : Nat} {i : Int32} (hdg : decode M.cc pc = .ok (.aaload, 1)) (hk : gK μ r = 105) (hin : inb i (gL μ r)) (k : S M Qr cells slots (pc + 1) lv (.ref (gR μ r i.toNatClampNeg) :: st) μ) : S M Qr cells slots pc lv (.int i :: .ref r :: st) μ := by
  intro cx ad0 n0 p l e s m args below meth c hx d0 ad H locs ls hd he hn hw hS hl hol hs
  have ho := own_a (j := 4) hk (by omega)
  rw [List.map_cons, List.map_cons, ab_own_ne hw ho]
  have he9 := hw.inl ho
  rw [ent_arr4 hk] at he9
  have h2 := k cx ad0 n0 p l e s m args below meth c hx d0 ad H locs ls hd he hn hw hS hl hol (ok_c (hw.2.2.2.2.2.2.2.2.1 r _) (ok_t2 hs))
  rw [List.map_cons, show cv ad (.ref (gR μ r i.toNatClampNeg)) = cv_r ad (gR μ r i.toNatClampNeg) from rfl, ← cv_ro] at h2
  exact va_aldq (D := cx.D) hx.1 hx.2.1 (hw.Kd d0) hw.2.1 (r - 23) 4 he9 rfl (inb_vp hin) hdg h2
theorem S_iast {r : Nat} {i : Int32} {v : Int32} (hdg : decode M.cc pc = .ok (.iastore, 1)) (hk : gK μ r = 101) (hin : inb i (gL μ r)) (k : S M Qr cells slots (pc + 1) lv st (stI μ r i.toNatClampNeg v)) : S M Qr cells slots pc lv (.int v :: .int i :: .ref r :: st) μ := by
  intro cx ad0 n0 p l e s m args below meth c hx d0 ad H locs ls hd he hn hw hS hl hol hs
  have ho := own_a (j := 0) hk (by omega)
  have h23 := (hw.2.2.2.2.1 r ho).1
  rw [List.map_cons, List.map_cons, List.map_cons, ab_own_ne hw ho]
  have he9 := hw.inl ho
  rw [ent_arr0 hk] at he9
  refine va_iast (D := cx.D) hx.1 hx.2.1 (hw.Kd d0) hw.2.1 hw.2.2.1 hS (r - 23) 0 he9 rfl (inb_vp hin) hdg fun H1 locs1 hP1 hD1 hS1 => ?_
  refine k cx ad0 n0 p l e s m args below meth c hx d0 ad H1 locs1 ls hd he hn (hw.chg ho rfl rfl rfl (up2_a _ _ _ (by omega)) hw.2.2.2.2.2.2.2.2.1 (fun a b hc9 => by rw [show gI (stI μ r i.toNatClampNeg v) a = gI μ a from up2_a _ _ _ (fun hz => by rw [hz] at hc9; omega)]; exact hw.2.2.2.2.2.2.2.2.2 a b hc9) ?_ (fun q hq => ent_stI hq) hP1 hD1) hS1 hl hol (ok_t3 hs)
  rw [ent_arr0 (show gK (stI μ r i.toNatClampNeg v) r = 101 from hk), show gI (stI μ r i.toNatClampNeg v) r = upd (gI μ r) i.toNatClampNeg v from up2_row _ _ _ _]
  rfl
theorem S_last {r : Nat} {i : Int32} {v : Int64} (hdg : decode M.cc pc = .ok (.lastore, 1)) (hk : gK μ r = 102) (hin : inb i (gL μ r)) (k : S M Qr cells slots (pc + 1) lv st (stJ μ r i.toNatClampNeg v)) : S M Qr cells slots pc lv (.long v :: .int i :: .ref r :: st) μ := by
  intro cx ad0 n0 p l e s m args below meth c hx d0 ad H locs ls hd he hn hw hS hl hol hs
  have ho := own_a (j := 1) hk (by omega)
  have h23 := (hw.2.2.2.2.1 r ho).1
  rw [List.map_cons, List.map_cons, List.map_cons, ab_own_ne hw ho]
  have he9 := hw.inl ho
  rw [ent_arr1 hk] at he9
  refine va_last (D := cx.D) hx.1 hx.2.1 (hw.Kd d0) hw.2.1 hw.2.2.1 hS (r - 23) 1 he9 rfl (inb_vp hin) hdg fun H1 locs1 hP1 hD1 hS1 => ?_
  refine k cx ad0 n0 p l e s m args below meth c hx d0 ad H1 locs1 ls hd he hn (hw.chg ho rfl rfl rfl rfl hw.2.2.2.2.2.2.2.2.1 hw.2.2.2.2.2.2.2.2.2 ?_ (fun q hq => ent_stJ hq) hP1 hD1) hS1 hl hol (ok_t3 hs)
  rw [ent_arr1 (show gK (stJ μ r i.toNatClampNeg v) r = 102 from hk), show gJ (stJ μ r i.toNatClampNeg v) r = vp_updL (gJ μ r) i.toNatClampNeg v from up2_row _ _ _ _]
  rfl
theorem S_dast {r : Nat} {i : Int32} {v : UInt64} (hdg : decode M.cc pc = .ok (.dastore, 1)) (hk : gK μ r = 104) (hin : inb i (gL μ r)) (k : S M Qr cells slots (pc + 1) lv st (stD μ r i.toNatClampNeg v)) : S M Qr cells slots pc lv (.double v :: .int i :: .ref r :: st) μ := by
  intro cx ad0 n0 p l e s m args below meth c hx d0 ad H locs ls hd he hn hw hS hl hol hs
  have ho := own_a (j := 3) hk (by omega)
  have h23 := (hw.2.2.2.2.1 r ho).1
  rw [List.map_cons, List.map_cons, List.map_cons, ab_own_ne hw ho]
  have he9 := hw.inl ho
  rw [ent_arr3 hk] at he9
  refine va_dast (D := cx.D) hx.1 hx.2.1 (hw.Kd d0) hw.2.1 hw.2.2.1 hS (r - 23) 3 he9 rfl (inb_vp hin) hdg fun H1 locs1 hP1 hD1 hS1 => ?_
  refine k cx ad0 n0 p l e s m args below meth c hx d0 ad H1 locs1 ls hd he hn (hw.chg ho rfl rfl rfl rfl hw.2.2.2.2.2.2.2.2.1 hw.2.2.2.2.2.2.2.2.2 ?_ (fun q hq => ent_stD hq) hP1 hD1) hS1 hl hol (ok_t3 hs)
  rw [ent_arr3 (show gK (stD μ r i.toNatClampNeg v) r = 104 from hk), show gD (stD μ r i.toNatClampNeg v) r = vf_upd (gD μ r) i.toNatClampNeg v from up2_row _ _ _ _]
  rfl
theorem S_zast {r : Nat} {i v : Int32} (hdg : decode M.cc pc = .ok (.bastore, 1)) (hk : gK μ r = 103) (hin : inb i (gL μ r)) (hv01 : v = 0 ∨ v = 1) (k : S M Qr cells slots (pc + 1) lv st (stI μ r i.toNatClampNeg v)) : S M Qr cells slots pc lv (.int v :: .int i :: .ref r :: st) μ := by
  intro cx ad0 n0 p l e s m args below meth c hx d0 ad H locs ls hd he hn hw hS hl hol hs
  have ho := own_a (j := 2) hk (by omega)
  have h23 := (hw.2.2.2.2.1 r ho).1
  rw [List.map_cons, List.map_cons, List.map_cons, ab_own_ne hw ho]
  have he9 := hw.inl ho
  rw [ent_arr2 hk] at he9
  have hv : vp_nar .boolean v = v := by rcases hv01 with rfl | rfl <;> decide
  refine va_zast (D := cx.D) hx.1 hx.2.1 (hw.Kd d0) hw.2.1 hw.2.2.1 hS (r - 23) 2 he9 rfl (inb_vp hin) hdg fun H1 locs1 hP1 hD1 hS1 => ?_
  rw [hv] at hP1 hD1
  refine k cx ad0 n0 p l e s m args below meth c hx d0 ad H1 locs1 ls hd he hn (hw.chg ho rfl rfl rfl (up2_a _ _ _ (by omega)) hw.2.2.2.2.2.2.2.2.1 (fun a b hc9 => ?_) ?_ (fun q hq => ent_stI hq) hP1 hD1) hS1 hl hol (ok_t3 hs)
  · show up2 (gI μ) r i.toNatClampNeg v a b = 0 ∨ up2 (gI μ) r i.toNatClampNeg v a b = 1
    unfold up2
    split
    · exact hv01
    · exact hw.2.2.2.2.2.2.2.2.2 a b hc9
  · rw [ent_arr2 (show gK (stI μ r i.toNatClampNeg v) r = 103 from hk), show gI (stI μ r i.toNatClampNeg v) r = upd (gI μ r) i.toNatClampNeg v from up2_row _ _ _ _]
    rfl
theorem S_aast {r v : Nat} {i : Int32} (hdg : decode M.cc pc = .ok (.aastore, 1)) (hk : gK μ r = 105) (hv3 : gK μ v = 3) (hin : inb i (gL μ r)) (k : S M Qr cells slots (pc + 1) lv st (stR μ r i.toNatClampNeg v)) : S M Qr cells slots pc lv (.ref v :: .int i :: .ref r :: st) μ := by
  intro cx ad0 n0 p l e s m args below meth c hx d0 ad H locs ls hd he hn hw hS hl hol hs
  have ho := own_a (j := 4) hk (by omega)
  have ho3 := own_c (ci := 2) hv3 (by omega)
  have h23 := (hw.2.2.2.2.1 r ho).1
  rw [List.map_cons, List.map_cons, List.map_cons, ab_own_ne hw ho, ab_own_ne hw ho3]
  have he9 := hw.inl ho
  rw [ent_arr4 hk] at he9
  have he8 := hw.inl ho3
  rw [ent_obj hv3 (by omega)] at he8
  refine va_astq (D := cx.D) (r := (RX3, TX3, 12)) hx.1 hx.2.1 (hw.Kd d0) hw.2.1 hw.2.2.1 hS (r - 23) 4 (v - 23) 2 he9 rfl he8 rfl (inb_vp hin) hdg fun H1 locs1 hP1 hD1 hS1 => ?_
  refine k cx ad0 n0 p l e s m args below meth c hx d0 ad H1 locs1 ls hd he hn (hw.chg ho rfl rfl rfl rfl (fun a b => up2_lt (ok_h hs) hw a b) hw.2.2.2.2.2.2.2.2.2 ?_ (fun q hq => ent_stR hq) hP1 hD1) hS1 hl hol (ok_t3 hs)
  rw [ent_arr4 (show gK (stR μ r i.toNatClampNeg v) r = 105 from hk), show gR (stR μ r i.toNatClampNeg v) r = (fun k => if k = i.toNatClampNeg then v else gR μ r k) from up2_row _ _ _ _]
  have hf : (fun j => cv_o ad (if j = i.toNatClampNeg then v else gR μ r j)) = va_up (fun j => cv_o ad (gR μ r j)) i.toNatClampNeg (some (ad v)) := by
    have hv0 := (hw.2.2.2.2.1 v ho3).1
    funext j
    unfold va_up
    by_cases hj : j = i.toNatClampNeg
    · rw [if_pos hj, if_pos hj]; unfold cv_o; rw [if_neg (by omega)]
    · rw [if_neg hj, if_neg hj]
  rw [hf]
  rfl
theorem S_alenI {r : Nat} (hdg : decode M.cc pc = .ok (.arraylength, 1)) (hk : gK μ r = 101) (k : S M Qr cells slots (pc + 1) lv (.int (Int32.ofNat (gL μ r)) :: st) μ) : S M Qr cells slots pc lv (.ref r :: st) μ := by
  intro cx ad0 n0 p l e s m args below meth c hx d0 ad H locs ls hd he hn hw hS hl hol hs
  have ho := own_a (j := 0) hk (by omega)
  rw [List.map_cons, ab_own_ne hw ho]
  have he9 := hw.inl ho
  rw [ent_arr0 hk] at he9
  exact va_alen (D := cx.D) hx.1 hx.2.1 (hw.Kd d0) hw.2.1 (r - 23) 0 he9 rfl rfl hdg (k cx ad0 n0 p l e s m args below meth c hx d0 ad H locs ls hd he hn hw hS hl hol (ok_c trivial (ok_t1 hs)))
theorem S_alenJ {r : Nat} (hdg : decode M.cc pc = .ok (.arraylength, 1)) (hk : gK μ r = 102) (k : S M Qr cells slots (pc + 1) lv (.int (Int32.ofNat (gL μ r)) :: st) μ) : S M Qr cells slots pc lv (.ref r :: st) μ := by
  intro cx ad0 n0 p l e s m args below meth c hx d0 ad H locs ls hd he hn hw hS hl hol hs
  have ho := own_a (j := 1) hk (by omega)
  rw [List.map_cons, ab_own_ne hw ho]
  have he9 := hw.inl ho
  rw [ent_arr1 hk] at he9
  exact va_alen (D := cx.D) hx.1 hx.2.1 (hw.Kd d0) hw.2.1 (r - 23) 1 he9 rfl rfl hdg (k cx ad0 n0 p l e s m args below meth c hx d0 ad H locs ls hd he hn hw hS hl hol (ok_c trivial (ok_t1 hs)))
theorem S_alenZ {r : Nat} (hdg : decode M.cc pc = .ok (.arraylength, 1)) (hk : gK μ r = 103) (k : S M Qr cells slots (pc + 1) lv (.int (Int32.ofNat (gL μ r)) :: st) μ) : S M Qr cells slots pc lv (.ref r :: st) μ := by
  intro cx ad0 n0 p l e s m args below meth c hx d0 ad H locs ls hd he hn hw hS hl hol hs
  have ho := own_a (j := 2) hk (by omega)
  rw [List.map_cons, ab_own_ne hw ho]
  have he9 := hw.inl ho
  rw [ent_arr2 hk] at he9
  exact va_alen (D := cx.D) hx.1 hx.2.1 (hw.Kd d0) hw.2.1 (r - 23) 2 he9 rfl rfl hdg (k cx ad0 n0 p l e s m args below meth c hx d0 ad H locs ls hd he hn hw hS hl hol (ok_c trivial (ok_t1 hs)))
def ad_new (ad : Nat → Nat) (n q : Nat) : Nat → Nat := fun x => if x = n then q else ad x
theorem cv_new {ad : Nat → Nat} {n q : Nat} {v : Value} (h : okv n v) : cv (ad_new ad n q) v = cv ad v := by
  cases v with
  | ref r =>
    have : r ≠ n := Nat.ne_of_lt h
    simp [cv, cv_r, ad_new, this]
  | _ => rfl
theorem cv_news {ad : Nat → Nat} {n q : Nat} {st : List Value} (h : ok_s n st) : st.map (cv (ad_new ad n q)) = st.map (cv ad) := List.map_congr_left fun v hv => cv_new (h v hv)
theorem ab_lv.new {ad : Nat → Nat} {ls : Array Slot} {k n q : Nat} {lv : List (Option Value)} (h : ab_lv ad ls k lv) (ho : ok_l n lv) : ab_lv (ad_new ad n q) ls k lv := ⟨h.1, h.2.1, fun i v hv => by rw [cv_new (ho i v hv)]; exact h.2.2 i v hv⟩
theorem ok_lup {n n2 : Nat} {lv : List (Option Value)} (h : ok_l n lv) (hn : n ≤ n2) : ok_l n2 lv := fun i v hv => by have h2 := h i v hv; cases v <;> first | trivial | exact Nat.lt_of_lt_of_le h2 hn
theorem ent_stN {cx : CX} {ad : Nat → Nat} {μ : Mem} {k n q r : Nat} (h : r ≠ gN μ) (hR : ∀ r j, gR μ r j < gN μ) : ab_ent cx (ad_new ad (gN μ) q) (stN μ k n) r = ab_ent cx ad μ r := by
  have h1 : gK (stN μ k n) r = gK μ r := if_neg h
  have h2 : gL (stN μ k n) r = gL μ r := if_neg h
  have h3 : gI (stN μ k n) r = gI μ r := by funext j; exact if_neg h
  have h4 : gJ (stN μ k n) r = gJ μ r := by funext j; exact if_neg h
  have h5 : gD (stN μ k n) r = gD μ r := by funext j; exact if_neg h
  have h6 : gR (stN μ k n) r = gR μ r := by funext j; exact if_neg h
  have h7 : ∀ j, cv_o (ad_new ad (gN μ) q) (gR μ r j) = cv_o ad (gR μ r j) := fun j => by
    have := Nat.ne_of_lt (hR r j)
    simp [cv_o, ad_new, this]
  have h8 : ∀ j, cv_r (ad_new ad (gN μ) q) (gR μ r j) = cv_r ad (gR μ r j) := fun j => by
    have := Nat.ne_of_lt (hR r j)
    simp [cv_r, ad_new, this]
  unfold ab_ent ab_fs ab_fv
  rw [h1, h2, h3, h4, h5, h6]
  simp only [h7, h8]
theorem Wd.new {cx : CX} {ad : Nat → Nat} {μ : Mem} {s : State} {H H1 : Heap} {k n q : Nat} {e : va_E} (h : Wd cx ad μ s H) (he : ab_ent cx (ad_new ad (gN μ) q) (stN μ k n) (gN μ) = e) (hP : va_P cx.D ab_cl (ab_wl cx ad μ ++ [(q, e)]) H1) (hD : va_D cx.A (ab_wl cx ad μ ++ [(q, e)])) : Wd cx (ad_new ad (gN μ) q) (stN μ k n) s H1 := by
  obtain ⟨h1, h2, h3, h4, h5, h6, h7, h8, h9, h10⟩ := h
  have hw := ab_wl_new (cx := cx) (ad := ad) (ad' := ad_new ad (gN μ) q) (μ := μ) (μ' := stN μ k n) (e := e) (q := q) h4 rfl (if_pos rfl) he (fun r hr => ⟨if_neg (Nat.ne_of_lt hr), ent_stN (Nat.ne_of_lt hr) h9⟩)
  have hN : gN (stN μ k n) = gN μ + 1 := rfl
  refine ⟨h1, by rw [hw]; exact hP, by rw [hw]; exact hD, by rw [hN]; omega, fun r hr => ?_, fun r hr => ?_, ?_, ?_, fun r j => ?_, fun r j hr => ?_⟩
  · rw [hN]
    by_cases hq : r = gN μ
    · omega
    · rw [show gK (stN μ k n) r = gK μ r from if_neg hq] at hr
      have := h5 r hr
      omega
  · have hq : r ≠ gN μ := by omega
    exact ⟨(if_neg hq).trans (h6 r hr).1, (if_neg hq).trans (h6 r hr).2⟩
  · exact (if_neg (by omega)).trans h7
  · rw [← h8]; funext j; exact if_neg (by omega)
  · show (if r = gN μ then 0 else gR μ r j) < gN μ + 1
    split
    · omega
    · exact Nat.lt_succ_of_lt (h9 r j)
  · show (if r = gN μ then (0 : Int32) else gI μ r j) = 0 ∨ (if r = gN μ then (0 : Int32) else gI μ r j) = 1
    by_cases hq : r = gN μ
    · rw [if_pos hq]; exact Or.inl rfl
    · rw [if_neg hq]
      exact h10 r j ((show gK (stN μ k n) r = gK μ r from if_neg hq) ▸ hr)
theorem ab_ext.new {ad0 ad : Nat → Nat} {n0 n q : Nat} (h : ab_ext ad0 n0 ad) (hn : n0 ≤ n) : ab_ext ad0 n0 (ad_new ad n q) := fun r hr => (if_neg (by omega)).trans (h r hr)
theorem cv_newr {cx : CX} {ad : Nat → Nat} {μ : Mem} {s : State} {H : Heap} {q : Nat} (h : Wd cx ad μ s H) : cv (ad_new ad (gN μ) q) (.ref (gN μ)) = .ref q := by
  have := h.2.2.2.1
  simp only [cv, cv_r]
  rw [if_neg (by omega)]
  simp [ad_new]
theorem ab_cA {cx : CX} {ad : Nat → Nat} {μ : Mem} {s : State} {H : Heap} (h : Wd cx ad μ s H) (d : Drawn) (j : Nat) {ty : FieldType} {cA : ClassId} (hj : (ab_tys cx)[j]? = some (cx.cA j, ty)) (hA : va_K cx.D ab_cl (ab_tys cx ++ [(cA, ty)]) (s.setDrawn d)) : cA = cx.cA j := by
  have h1 := ((h.Kd d).2 j _ hj).2
  have h2 := (hA.2 5 (cA, ty) (by simp [ab_tys])).2
  cases ty with
  | object C =>
    obtain ⟨-, -, -, -, -, g1⟩ := h1
    obtain ⟨-, -, -, -, -, g2⟩ := h2
    exact Option.some.inj (g2.symm.trans g1)
  | _ => exact Option.some.inj (h2.symm.trans h1)
theorem S_newaI {n : Int32} {N : Nat} (hdg : decode M.cc pc = .ok (.newarray .int, 2)) (hn9 : ¬ n < 0) (hN : n.toNatClampNeg = N) (hby : N * 4 ≤ 536870912) (hc1 : cells + 1 ≤ M.rm.cells) (hs1 : slots + N ≤ M.rm.slots) (hwa : Cond.arrayClass .int ∈ ab_WA) (k : S M Qr (cells + 1) (slots + N) (pc + 2) lv (.ref (gN μ) :: st) (stN μ 101 N)) : S M Qr cells slots pc lv (.int n :: st) μ := by
  intro cx ad0 n0 p l e s m args below meth c hx d0 ad H locs ls hd he hn hw hS hl hol hs
  refine va_newa (D := cx.D) (atype := .int) (a0 := (N, .inl (fun _ => 0))) hx.1 hx.2.1 (hx.tsd d0 _ hwa) (ty := .int) rfl (hw.Kd d0) hw.2.1 hw.2.2.1 hS (fun q hq => Nat.le_trans hx.2.2.2.2.2.2.2.2.2.2.Z hq) (fun cA => rfl) hn9 hN hby hc1 hs1 hdg fun q cA H1 hK1 hP1 hD1 hS1 => ?_
  have hcA := ab_cA hw d0 0 rfl hK1
  subst hcA
  have hw1 := hw.new (k := 101) (n := N) (q := q) (by rw [ent_arr0 (show gK (stN μ 101 N) (gN μ) = 101 from if_pos rfl), show gL (stN μ 101 N) (gN μ) = N from if_pos rfl, show gI (stN μ 101 N) (gN μ) = (fun _ => 0) from by funext j; exact if_pos rfl]) hP1 hD1
  have h2 := k cx ad0 n0 p l e s m args below meth c hx d0 (ad_new ad (gN μ) q) H1 locs ls hd (he.new hn) (Nat.le_succ_of_le hn) hw1 hS1 (hl.new hol) (ok_lup hol (Nat.le_succ _)) (ok_c (Nat.lt_succ_self _) (ok_up (ok_t1 hs) (Nat.le_succ _)))
  rw [List.map_cons, cv_newr hw, cv_news (ok_t1 hs)] at h2
  exact h2
theorem S_newaJ {n : Int32} {N : Nat} (hdg : decode M.cc pc = .ok (.newarray .long, 2)) (hn9 : ¬ n < 0) (hN : n.toNatClampNeg = N) (hby : N * 8 ≤ 536870912) (hc1 : cells + 1 ≤ M.rm.cells) (hs1 : slots + N ≤ M.rm.slots) (hwa : Cond.arrayClass .long ∈ ab_WA) (k : S M Qr (cells + 1) (slots + N) (pc + 2) lv (.ref (gN μ) :: st) (stN μ 102 N)) : S M Qr cells slots pc lv (.int n :: st) μ := by
  intro cx ad0 n0 p l e s m args below meth c hx d0 ad H locs ls hd he hn hw hS hl hol hs
  refine va_newa (D := cx.D) (atype := .long) (a0 := (N, .inr (.inl (fun _ => 0)))) hx.1 hx.2.1 (hx.tsd d0 _ hwa) (ty := .long) rfl (hw.Kd d0) hw.2.1 hw.2.2.1 hS (fun q hq => Nat.le_trans hx.2.2.2.2.2.2.2.2.2.2.Z hq) (fun cA => rfl) hn9 hN hby hc1 hs1 hdg fun q cA H1 hK1 hP1 hD1 hS1 => ?_
  have hcA := ab_cA hw d0 1 rfl hK1
  subst hcA
  have hw1 := hw.new (k := 102) (n := N) (q := q) (by rw [ent_arr1 (show gK (stN μ 102 N) (gN μ) = 102 from if_pos rfl), show gL (stN μ 102 N) (gN μ) = N from if_pos rfl, show gJ (stN μ 102 N) (gN μ) = (fun _ => 0) from by funext j; exact if_pos rfl]) hP1 hD1
  have h2 := k cx ad0 n0 p l e s m args below meth c hx d0 (ad_new ad (gN μ) q) H1 locs ls hd (he.new hn) (Nat.le_succ_of_le hn) hw1 hS1 (hl.new hol) (ok_lup hol (Nat.le_succ _)) (ok_c (Nat.lt_succ_self _) (ok_up (ok_t1 hs) (Nat.le_succ _)))
  rw [List.map_cons, cv_newr hw, cv_news (ok_t1 hs)] at h2
  exact h2
theorem S_newaZ {n : Int32} {N : Nat} (hdg : decode M.cc pc = .ok (.newarray .boolean, 2)) (hn9 : ¬ n < 0) (hN : n.toNatClampNeg = N) (hby : N * 1 ≤ 536870912) (hc1 : cells + 1 ≤ M.rm.cells) (hs1 : slots + N ≤ M.rm.slots) (hwa : Cond.arrayClass .boolean ∈ ab_WA) (k : S M Qr (cells + 1) (slots + N) (pc + 2) lv (.ref (gN μ) :: st) (stN μ 103 N)) : S M Qr cells slots pc lv (.int n :: st) μ := by
  intro cx ad0 n0 p l e s m args below meth c hx d0 ad H locs ls hd he hn hw hS hl hol hs
  refine va_newa (D := cx.D) (atype := .boolean) (a0 := (N, .inl (fun _ => 0))) hx.1 hx.2.1 (hx.tsd d0 _ hwa) (ty := .boolean) rfl (hw.Kd d0) hw.2.1 hw.2.2.1 hS (fun q hq => Nat.le_trans hx.2.2.2.2.2.2.2.2.2.2.Z hq) (fun cA => rfl) hn9 hN hby hc1 hs1 hdg fun q cA H1 hK1 hP1 hD1 hS1 => ?_
  have hcA := ab_cA hw d0 2 rfl hK1
  subst hcA
  have hw1 := hw.new (k := 103) (n := N) (q := q) (by rw [ent_arr2 (show gK (stN μ 103 N) (gN μ) = 103 from if_pos rfl), show gL (stN μ 103 N) (gN μ) = N from if_pos rfl, show gI (stN μ 103 N) (gN μ) = (fun _ => 0) from by funext j; exact if_pos rfl]) hP1 hD1
  have h2 := k cx ad0 n0 p l e s m args below meth c hx d0 (ad_new ad (gN μ) q) H1 locs ls hd (he.new hn) (Nat.le_succ_of_le hn) hw1 hS1 (hl.new hol) (ok_lup hol (Nat.le_succ _)) (ok_c (Nat.lt_succ_self _) (ok_up (ok_t1 hs) (Nat.le_succ _)))
  rw [List.map_cons, cv_newr hw, cv_news (ok_t1 hs)] at h2
  exact h2
theorem S_newaD {n : Int32} {N : Nat} (hdg : decode M.cc pc = .ok (.newarray .double, 2)) (hn9 : ¬ n < 0) (hN : n.toNatClampNeg = N) (hby : N * 8 ≤ 536870912) (hc1 : cells + 1 ≤ M.rm.cells) (hs1 : slots + N ≤ M.rm.slots) (hwa : Cond.arrayClass .double ∈ ab_WA) (k : S M Qr (cells + 1) (slots + N) (pc + 2) lv (.ref (gN μ) :: st) (stN μ 104 N)) : S M Qr cells slots pc lv (.int n :: st) μ := by
  intro cx ad0 n0 p l e s m args below meth c hx d0 ad H locs ls hd he hn hw hS hl hol hs
  refine va_newa (D := cx.D) (atype := .double) (a0 := (N, .inr (.inr (.inr (.inl (fun _ => 0)))))) hx.1 hx.2.1 (hx.tsd d0 _ hwa) (ty := .double) rfl (hw.Kd d0) hw.2.1 hw.2.2.1 hS (fun q hq => Nat.le_trans hx.2.2.2.2.2.2.2.2.2.2.Z hq) (fun cA => rfl) hn9 hN hby hc1 hs1 hdg fun q cA H1 hK1 hP1 hD1 hS1 => ?_
  have hcA := ab_cA hw d0 3 rfl hK1
  subst hcA
  have hw1 := hw.new (k := 104) (n := N) (q := q) (by rw [ent_arr3 (show gK (stN μ 104 N) (gN μ) = 104 from if_pos rfl), show gL (stN μ 104 N) (gN μ) = N from if_pos rfl, show gD (stN μ 104 N) (gN μ) = (fun _ => 0) from by funext j; exact if_pos rfl]) hP1 hD1
  have h2 := k cx ad0 n0 p l e s m args below meth c hx d0 (ad_new ad (gN μ) q) H1 locs ls hd (he.new hn) (Nat.le_succ_of_le hn) hw1 hS1 (hl.new hol) (ok_lup hol (Nat.le_succ _)) (ok_c (Nat.lt_succ_self _) (ok_up (ok_t1 hs) (Nat.le_succ _)))
  rw [List.map_cons, cv_newr hw, cv_news (ok_t1 hs)] at h2
  exact h2
theorem S_newq {n : Int32} {N idx : Nat} (hdg : decode M.cc pc = .ok (.anewarray idx, 3)) (hn9 : ¬ n < 0) (hN : n.toNatClampNeg = N) (hby : N * 4 ≤ 536870912) (hc1 : cells + 1 ≤ M.rm.cells) (hs1 : slots + N ≤ M.rm.slots) (hcl : Cond.classLink M.own idx RX3 ∈ ab_WA) (k : S M Qr (cells + 1) (slots + N) (pc + 3) lv (.ref (gN μ) :: st) (stN μ 105 N)) : S M Qr cells slots pc lv (.int n :: st) μ := by
  intro cx ad0 n0 p l e s m args below meth c hx d0 ad H locs ls hd he hn hw hS hl hol hs
  refine va_newq (D := cx.D) hx.1 hx.2.1 (hx.ownd d0) (hx.tsd d0 _ hcl) hx.2.2.2.2.2.2.2.2.2.2.AO (hw.Kd d0) hw.2.1 hw.2.2.1 hS (fun q hq => Nat.le_trans hx.2.2.2.2.2.2.2.2.2.2.Z hq) hn9 hN hby hc1 hs1 hdg fun q cA H1 hK1 hP1 hD1 hS1 => ?_
  have hcA := ab_cA hw d0 4 rfl hK1
  subst hcA
  have hw1 := hw.new (k := 105) (n := N) (q := q) (by rw [ent_arr4 (show gK (stN μ 105 N) (gN μ) = 105 from if_pos rfl), show gL (stN μ 105 N) (gN μ) = N from if_pos rfl, show gR (stN μ 105 N) (gN μ) = (fun _ => 0) from by funext j; exact if_pos rfl]; rfl) hP1 hD1
  have h2 := k cx ad0 n0 p l e s m args below meth c hx d0 (ad_new ad (gN μ) q) H1 locs ls hd (he.new hn) (Nat.le_succ_of_le hn) hw1 hS1 (hl.new hol) (ok_lup hol (Nat.le_succ _)) (ok_c (Nat.lt_succ_self _) (ok_up (ok_t1 hs) (Nat.le_succ _)))
  rw [List.map_cons, cv_newr hw, cv_news (ok_t1 hs)] at h2
  exact h2
theorem S_new {ci idx N : Nat} {C : String} {T : u_T} (hdg : decode M.cc pc = .ok (.new idx, 3)) (hc : ab_cl[ci]? = some (C, T, N)) (hin : ∀ w ∈ u_ws C T N, w ∈ ab_WA) (hty0 : ∀ k, k < N → parseFieldDescriptor (T k).2.2.1 = some (ab_ty ci k)) (hcl : Cond.classLink M.own idx C ∈ ab_WA) (hins : Cond.instantiable C N ∈ ab_WA) (hini : Cond.initialized C ∈ ab_WA) (hc1 : cells + 1 ≤ M.rm.cells) (hs1 : slots + N ≤ M.rm.slots) (hty : ∀ j, j < N → ab_ty ci j = .int ∨ ab_ty ci j = .boolean ∨ ab_ty ci j = .long ∨ (∃ n, ab_ty ci j = .object n) ∨ ∃ t, ab_ty ci j = .array t) (k : S M Qr (cells + 1) (slots + N) (pc + 3) lv (.ref (gN μ) :: st) (stN μ (ci + 1) 0)) : S M Qr cells slots pc lv st μ := by
  intro cx ad0 n0 p l e s m args below meth c hx d0 ad H locs ls hd he hn hw hS hl hol hs
  obtain ⟨hN, h8⟩ := ab_cl_at hc
  have hK9 : gK (stN μ (ci + 1) 0) (gN μ) = ci + 1 := if_pos rfl
  refine va_new (D := cx.D) (fs := ab_fs ad (stN μ (ci + 1) 0) (gN μ) ci) hx.1 hx.2.1 (hx.tsd d0) hin (ab_ty ci) hty0 (hx.ownd d0) (hx.tsd d0 _ hcl) (hx.tsd d0 _ hins) (hx.tsd d0 _ hini) (hw.Kd d0) hw.2.1 hw.2.2.1 hS (fun q hq => Nat.le_trans hx.2.2.2.2.2.2.2.2.2.2.Z hq) hc (fun j hj => ?_) hc1 hs1 hdg fun q H1 hP1 hD1 hS1 => ?_
  · unfold vp_V
    have h9 := ab_fs_at (ad := ad) (μ := stN μ (ci + 1) 0) (r := gN μ) (ci := ci) (j := j) (by rw [← hN]; exact hj)
    rw [List.getD_eq_getElem?_getD, h9]
    have e1 : gI (stN μ (ci + 1) 0) (gN μ) j = 0 := if_pos rfl
    have e2 : gJ (stN μ (ci + 1) 0) (gN μ) j = 0 := if_pos rfl
    have e3 : gR (stN μ (ci + 1) 0) (gN μ) j = 0 := if_pos rfl
    rcases hty j hj with h | h | h | ⟨n9, h⟩ | ⟨t9, h⟩ <;> rw [h] <;> simp [ab_fv, e1, e2, e3, cv_r, defaultValue]
  · have hw1 := hw.new (k := ci + 1) (n := 0) (q := q) (e := .inr (ci, ab_fs ad (stN μ (ci + 1) 0) (gN μ) ci)) (by
      rw [ent_obj hK9 h8]
      have : ab_fs (ad_new ad (gN μ) q) (stN μ (ci + 1) 0) (gN μ) ci = ab_fs ad (stN μ (ci + 1) 0) (gN μ) ci := by
        unfold ab_fs
        apply List.map_congr_left
        intro j hj
        have e3 : gR (stN μ (ci + 1) 0) (gN μ) j = 0 := if_pos rfl
        unfold ab_fv
        rw [e3]
        cases ab_ty ci j <;> simp [cv_r]
      rw [this]) hP1 hD1
    have h2 := k cx ad0 n0 p l e s m args below meth c hx d0 (ad_new ad (gN μ) q) H1 locs ls hd (he.new hn) (Nat.le_succ_of_le hn) hw1 hS1 (hl.new hol) (ok_lup hol (Nat.le_succ _)) (ok_c (Nat.lt_succ_self _) (ok_up hs (Nat.le_succ _)))
    rw [List.map_cons, cv_newr hw, cv_news hs] at h2
    exact h2
theorem S_objInit {r idx : Nat} (hdg : decode M.cc pc = .ok (.invokespecial idx, 3)) (hr : gK μ r ≠ 0) (hr23 : 23 ≤ r) (hlk : Cond.methodLink M.own idx objectInit ∈ ab_WA) (hi : Cond.instanceMethod objectInit ∈ ab_WA) (hco : Cond.code objectInit ⟨#[0xb1]⟩ 1 none ∈ ab_WA) (hW : (st.map fun v => v.category).sum ≤ 8) (hf : 1 ≤ M.rm.frames) (hlo : 20 ≤ M.rm.locals) (k : S M Qr cells slots (pc + 3) lv st μ) : S M Qr cells slots pc lv (.ref r :: st) μ := by
  intro cx ad0 n0 p l e s m args below meth c hx d0 ad H locs ls hd he hn hw hS hl hol hs
  rw [List.map_cons, show cv ad (.ref r) = .ref (ad r) from by simp only [cv, cv_r]; rw [if_neg (by omega)]]
  refine W.objInit hx.1 hx.2.1 (hx.ownd d0) (hx.tsd d0 _ hlk) (hx.tsd d0 _ hi) (hx.tsd d0 _ hco) rfl (by rw [hx.2.2.1]; exact hl.1) rfl hdg hf ?_ ?_
  · show 2 * 0 + ((st.map (cv ad)).map fun v => v.category).sum + 12 ≤ _
    rw [cv_sum]
    omega
  · exact k cx ad0 n0 p l e s m args below meth c hx d0 ad H locs ls hd he hn hw hS hl hol (ok_t1 hs)
end SH

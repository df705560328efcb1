/-! RULES OF THE CONSTANTS, of copies, and of calls of inherited methods -/
theorem Cw.dr {cx : CX} {s : State} (h : Cw cx s s.heap) (d : Drawn) (hz : cx.Z ≤ s.heap.size) : Cw cx (s.setDrawn d) (s.setDrawn d).heap := h.go (U := s.setDrawn d) (H1 := s.heap) (Vm.Alike.refl s.vm) hz (fun _ _ _ => rfl)
theorem HX.cwd {cx : CX} {M : MI} {p : Program} {l : Launch} {s : State} {m : MethodId} {args : Array Value} {meth : Method} {c : Code} (h : HX cx M p l s m args meth c) (d : Drawn) : Cw cx (s.setDrawn d) (s.setDrawn d).heap := h.2.2.2.2.2.2.2.2.2.2.cw.dr d h.2.2.2.2.2.2.2.2.2.2.Z
theorem cv_cad {cx : CX} {ad : Nat → Nat} {μ : Mem} {s : State} {H : Heap} (h : Wd cx ad μ s H) {r : Nat} (h0 : r ≠ 0) (h23 : r < 23) : cv ad (.ref r) = .ref (cx.cad r) := by
  simp only [cv, cv_r]
  rw [if_neg h0, (h.2.2.2.2.2.1 r h23).1]
section SK
variable {M K : MI} {Qr Q : (Option Value ⊕ Nat) → Mem → Prop} {cells slots pc : Nat} {lv lv' : List (Option Value)} {st : List Value} {μ : Mem}
theorem okc {cx : CX} {ad : Nat → Nat} {s : State} {H : Heap} (h : Wd cx ad μ s H) {r : Nat} (h23 : r < 23) : okv (gN μ) (.ref r) := Nat.lt_of_lt_of_le h23 h.2.2.2.1
theorem S_sld {i : Int32} (hdg : decode M.cc pc = .ok (.iaload, 1)) (hin : inb i (gL μ 1)) (k : S M Qr cells slots (pc + 1) lv (.int (gI μ 1 i.toNatClampNeg) :: st) μ) : S M Qr cells slots pc lv (.int i :: .ref 1 :: st) μ := by
  intro cx ad0 n0 p l e s m args below meth c hx d0 ad H locs ls hd he hn hw hS hl hol hs
  rw [List.map_cons, List.map_cons, cv_cad hw (by decide) (by decide)]
  have hC := hx.cwd d0
  have h2 := k cx ad0 n0 p l e s m args below meth c hx d0 ad H locs ls hd he hn hw hS hl hol (ok_c trivial (ok_t2 hs))
  rw [hw.2.2.2.2.2.2.2.1] at h2
  exact va_sld (A := cx.A) (H0 := s.heap) hx.1 hx.2.1 hC.1 (Nat.lt_of_lt_of_le (Nat.lt_of_not_le hC.2.1) hx.2.2.2.2.2.2.2.2.2.2.Z) hC.2.1 hS (by rw [← hw.2.2.2.2.2.2.1]; exact inb_vp hin) hdg h2
theorem S_slen (hdg : decode M.cc pc = .ok (.arraylength, 1)) (k : S M Qr cells slots (pc + 1) lv (.int (Int32.ofNat (gL μ 1)) :: st) μ) : S M Qr cells slots pc lv (.ref 1 :: st) μ := by
  intro cx ad0 n0 p l e s m args below meth c hx d0 ad H locs ls hd he hn hw hS hl hol hs
  rw [List.map_cons, cv_cad hw (by decide) (by decide)]
  have hC := hx.cwd d0
  have h2 := k cx ad0 n0 p l e s m args below meth c hx d0 ad H locs ls hd he hn hw hS hl hol (ok_c trivial (ok_t1 hs))
  rw [hw.2.2.2.2.2.2.1] at h2
  exact va_slen (A := cx.A) (H0 := s.heap) hx.1 hx.2.1 hC.1 (Nat.lt_of_lt_of_le (Nat.lt_of_not_le hC.2.1) hx.2.2.2.2.2.2.2.2.2.2.Z) hC.2.1 hS hdg h2
/-- a word's constant -/
theorem S_gsW {i idx : Nat} (hi : i < 16) (hdg : decode M.cc pc = .ok (.getstatic idx, 3)) (hlk : Cond.fieldLink M.own idx RX7 (wd_nm.getD i "") "LTabulator$Word;" ∈ ab_WA) (k : S M Qr cells slots (pc + 3) lv (.ref (2 + i) :: st) μ) : S M Qr cells slots pc lv st μ := by
  intro cx ad0 n0 p l e s m args below meth c hx d0 ad H locs ls hd he hn hw hS hl hol hs
  have h2 := k cx ad0 n0 p l e s m args below meth c hx d0 ad H locs ls hd he hn hw hS hl hol (ok_c (okc hw (by omega)) hs)
  rw [List.map_cons, cv_cad hw (by omega) (by omega)] at h2
  exact va_gets hx.1 hx.2.1 ((hx.cwd d0).2.2.1 i hi) hS (hx.ownd d0) (hx.tsd d0 _ hlk) (fun x h => h) hdg h2
theorem S_gsA {idx : Nat} (hdg : decode M.cc pc = .ok (.getstatic idx, 3)) (hlk : Cond.fieldLink M.own idx RX7 "ALL" "[LTabulator$Word;" ∈ ab_WA) (k : S M Qr cells slots (pc + 3) lv (.ref 18 :: st) μ) : S M Qr cells slots pc lv st μ := by
  intro cx ad0 n0 p l e s m args below meth c hx d0 ad H locs ls hd he hn hw hS hl hol hs
  have h2 := k cx ad0 n0 p l e s m args below meth c hx d0 ad H locs ls hd he hn hw hS hl hol (ok_c (okc hw (by omega)) hs)
  rw [List.map_cons, cv_cad hw (by omega) (by omega)] at h2
  exact va_gets hx.1 hx.2.1 ((hx.cwd d0).2.2.2.2.2.2.2.1) hS (hx.ownd d0) (hx.tsd d0 _ hlk) (fun x h => h) hdg h2
theorem S_gsS {idx : Nat} (hdg : decode M.cc pc = .ok (.getstatic idx, 3)) (hlk : Cond.fieldLink M.own idx RX0 "$SwitchMap$Tabulator$Word" "[I" ∈ ab_WA) (k : S M Qr cells slots (pc + 3) lv (.ref 19 :: st) μ) : S M Qr cells slots pc lv st μ := by
  intro cx ad0 n0 p l e s m args below meth c hx d0 ad H locs ls hd he hn hw hS hl hol hs
  have h2 := k cx ad0 n0 p l e s m args below meth c hx d0 ad H locs ls hd he hn hw hS hl hol (ok_c (okc hw (by omega)) hs)
  rw [List.map_cons, cv_cad hw (by omega) (by omega)] at h2
  exact va_gets hx.1 hx.2.1 ((hx.cwd d0).2.2.2.2.2.2.2.2.2.1) hS (hx.ownd d0) (hx.tsd d0 _ hlk) (fun x h => h) hdg h2
theorem S_gsC {idx : Nat} (hdg : decode M.cc pc = .ok (.getstatic idx, 3)) (hlk : Cond.fieldLink M.own idx "java/lang/String" "COMPACT_STRINGS" "Z" ∈ ab_WA) (k : S M Qr cells slots (pc + 3) lv (.int 1 :: st) μ) : S M Qr cells slots pc lv st μ := by
  intro cx ad0 n0 p l e s m args below meth c hx d0 ad H locs ls hd he hn hw hS hl hol hs
  exact va_gets hx.1 hx.2.1 ((hx.cwd d0).2.2.2.2.2.2.2.2.2.2.2.2.2.2.2.1) hS (hx.ownd d0) (hx.tsd d0 _ hlk) (fun x h => h) hdg (k cx ad0 n0 p l e s m args below meth c hx d0 ad H locs ls hd he hn hw hS hl hol (ok_c trivial hs))
theorem S_gsF {idx : Nat} (hdg : decode M.cc pc = .ok (.getstatic idx, 3)) (hlk : Cond.fieldLink M.own idx "jdk/internal/util/Preconditions" "SIOOBE_FORMATTER" "Ljava/util/function/BiFunction;" ∈ ab_WA) (k : ∀ f : Nat, S M Qr cells slots (pc + 3) lv (.ref f :: st) μ) : S M Qr cells slots pc lv st μ := by
  intro cx ad0 n0 p l e s m args below meth c hx d0 ad H locs ls hd he hn hw hS hl hol hs
  rcases (hx.cwd d0).2.2.2.2.2.2.2.2.2.2.2.2.2.2.2.2 with hZ | hZ
  · have h2 := k 0 cx ad0 n0 p l e s m args below meth c hx d0 ad H locs ls hd he hn hw hS hl hol (ok_c (okc hw (by omega)) hs)
    exact va_gets hx.1 hx.2.1 hZ hS (hx.ownd d0) (hx.tsd d0 _ hlk) (fun x h => h) hdg h2
  · have h2 := k 22 cx ad0 n0 p l e s m args below meth c hx d0 ad H locs ls hd he hn hw hS hl hol (ok_c (okc hw (by omega)) hs)
    rw [List.map_cons, cv_cad hw (by omega) (by omega)] at h2
    exact va_gets hx.1 hx.2.1 hZ hS (hx.ownd d0) (hx.tsd d0 _ hlk) (fun x h => h) hdg h2
theorem S_swld {i : Int32} (hdg : decode M.cc pc = .ok (.iaload, 1)) (hin : inb i 16) (k : S M Qr cells slots (pc + 1) lv (.int (wd_sw i.toNatClampNeg) :: st) μ) : S M Qr cells slots pc lv (.int i :: .ref 19 :: st) μ := by
  intro cx ad0 n0 p l e s m args below meth c hx d0 ad H locs ls hd he hn hw hS hl hol hs
  rw [List.map_cons, List.map_cons, cv_cad hw (by decide) (by decide)]
  exact va_ti hx.1 hx.2.1 ((hx.cwd d0).2.2.2.2.2.2.2.2.2.2.1) hS (inb_vp hin) rfl hdg (k cx ad0 n0 p l e s m args below meth c hx d0 ad H locs ls hd he hn hw hS hl hol (ok_c trivial (ok_t2 hs)))
theorem S_allen (hdg : decode M.cc pc = .ok (.arraylength, 1)) (k : S M Qr cells slots (pc + 1) lv (.int 16 :: st) μ) : S M Qr cells slots pc lv (.ref 18 :: st) μ := by
  intro cx ad0 n0 p l e s m args below meth c hx d0 ad H locs ls hd he hn hw hS hl hol hs
  rw [List.map_cons, cv_cad hw (by decide) (by decide)]
  exact va_tlen hx.1 hx.2.1 ((hx.cwd d0).2.2.2.2.2.2.2.2.1) hS rfl hdg (k cx ad0 n0 p l e s m args below meth c hx d0 ad H locs ls hd he hn hw hS hl hol (ok_c trivial (ok_t1 hs)))
theorem S_allld {i : Int32} (hdg : decode M.cc pc = .ok (.aaload, 1)) (hin : inb i 16) (k : S M Qr cells slots (pc + 1) lv (.ref (2 + i.toNatClampNeg) :: st) μ) : S M Qr cells slots pc lv (.int i :: .ref 18 :: st) μ := by
  intro cx ad0 n0 p l e s m args below meth c hx d0 ad H locs ls hd he hn hw hS hl hol hs
  have h16 : i.toNatClampNeg < 16 := Nat.not_le.mp fun q => (inb_vp hin) (Or.inr q)
  rw [List.map_cons, List.map_cons, cv_cad hw (by decide) (by decide)]
  have h2 := k cx ad0 n0 p l e s m args below meth c hx d0 ad H locs ls hd he hn hw hS hl hol (ok_c (okc hw (by omega)) (ok_t2 hs))
  rw [List.map_cons, cv_cad hw (by omega) (by omega)] at h2
  exact vb_tq hx.1 hx.2.1 ((hx.cwd d0).2.2.2.2.2.2.2.2.1) hS (inb_vp hin) rfl hdg h2
theorem S_wkey {i idx r : Nat} (hr : r = 2 + i) (hi : i < 16) (hdg : decode M.cc pc = .ok (.getfield idx, 3)) (hlk : Cond.fieldLink M.own idx RX7 "key" "J" ∈ ab_WA) (k : S M Qr cells slots (pc + 3) lv (.long (wd_key i) :: st) μ) : S M Qr cells slots pc lv (.ref r :: st) μ := by
  intro cx ad0 n0 p l e s m args below meth c hx d0 ad H locs ls hd he hn hw hS hl hol hs
  subst hr
  rw [List.map_cons, cv_cad hw (by omega) (by omega)]
  exact va_getX (v := fun i => .long (wd_key i)) (ad := fun i => cx.cad (2 + i)) (i := i) hx.1 hx.2.1 ((hx.cwd d0).2.2.2.2.1) hi hS (hx.ownd d0) (hx.tsd d0 _ hlk) (fun x h => h) hdg (k cx ad0 n0 p l e s m args below meth c hx d0 ad H locs ls hd he hn hw hS hl hol (ok_c trivial (ok_t1 hs)))
theorem S_word {i idx r : Nat} (hr : r = 2 + i) (hi : i < 16) (hdg : decode M.cc pc = .ok (.getfield idx, 3)) (hlk : Cond.fieldLink M.own idx "java/lang/Enum" "ordinal" "I" ∈ ab_WA) (k : S M Qr cells slots (pc + 3) lv (.int (nI i) :: st) μ) : S M Qr cells slots pc lv (.ref r :: st) μ := by
  intro cx ad0 n0 p l e s m args below meth c hx d0 ad H locs ls hd he hn hw hS hl hol hs
  subst hr
  rw [List.map_cons, cv_cad hw (by omega) (by omega)]
  exact va_getX (v := fun i => .int (nI i)) (ad := fun i => cx.cad (2 + i)) (i := i) hx.1 hx.2.1 ((hx.cwd d0).2.2.2.2.2.1) hi hS (hx.ownd d0) (hx.tsd d0 _ hlk) (fun x h => h) hdg (k cx ad0 n0 p l e s m args below meth c hx d0 ad H locs ls hd he hn hw hS hl hol (ok_c trivial (ok_t1 hs)))
/-- two words (or null) are the same -/
theorem wd_same {cx : CX} {ad : Nat → Nat} {s : State} {H : Heap} (hw : Wd cx ad μ s H) {s2 : State} {H2 : Heap} (hC : Cw cx s2 H2) {x y : Nat} (hx : x = 0 ∨ (2 ≤ x ∧ x < 18)) (hy : y = 0 ∨ (2 ≤ y ∧ y < 18)) : cv_o ad x = cv_o ad y ↔ x = y := by
  constructor
  · intro h
    unfold cv_o at h
    rcases hx with rfl | hx <;> rcases hy with rfl | hy
    · rfl
    · rw [if_pos rfl, if_neg (by omega)] at h; cases h
    · rw [if_pos rfl, if_neg (by omega)] at h; cases h
    · rw [if_neg (by omega), if_neg (by omega), (hw.2.2.2.2.2.1 x (by omega)).1, (hw.2.2.2.2.2.1 y (by omega)).1] at h
      have := hC.2.2.2.2.2.2.1 (x - 2) (y - 2) (by omega) (by omega) (by rw [show 2 + (x - 2) = x from by omega, show 2 + (y - 2) = y from by omega]; exact Option.some.inj h)
      omega
  · rintro rfl; rfl
theorem S_acmp_eq {x y : Nat} {off : Int} {tgt : Nat} (hx9 : x = 0 ∨ (2 ≤ x ∧ x < 18)) (hy9 : y = 0 ∨ (2 ≤ y ∧ y < 18)) (hdg : decode M.cc pc = .ok (.if_acmp .eq off, 3)) (ht : (pc : Int) + off = (tgt : Int)) (kt : x = y → S M Qr cells slots tgt lv st μ) (kf : ¬ x = y → S M Qr cells slots (pc + 3) lv st μ) : S M Qr cells slots pc lv (.ref y :: .ref x :: st) μ := by
  intro cx ad0 n0 p l e s m args below meth c hx d0 ad H locs ls hd he hn hw hS hl hol hs
  have hz := wd_same hw (hx.cwd d0) hx9 hy9
  rw [List.map_cons, List.map_cons, show cv ad (.ref x) = cv_r ad x from rfl, show cv ad (.ref y) = cv_r ad y from rfl, ← cv_ro, ← cv_ro]
  exact lv_acmp_eq hx.1 hx.2.1 hdg ht (fun h => kt (hz.mp h) cx ad0 n0 p l e s m args below meth c hx d0 ad H locs ls hd he hn hw hS hl hol (ok_t2 hs)) (fun h => kf (fun h2 => h (hz.mpr h2)) cx ad0 n0 p l e s m args below meth c hx d0 ad H locs ls hd he hn hw hS hl hol (ok_t2 hs))
theorem S_acmp_ne {x y : Nat} {off : Int} {tgt : Nat} (hx9 : x = 0 ∨ (2 ≤ x ∧ x < 18)) (hy9 : y = 0 ∨ (2 ≤ y ∧ y < 18)) (hdg : decode M.cc pc = .ok (.if_acmp .ne off, 3)) (ht : (pc : Int) + off = (tgt : Int)) (kt : ¬ x = y → S M Qr cells slots tgt lv st μ) (kf : x = y → S M Qr cells slots (pc + 3) lv st μ) : S M Qr cells slots pc lv (.ref y :: .ref x :: st) μ := by
  intro cx ad0 n0 p l e s m args below meth c hx d0 ad H locs ls hd he hn hw hS hl hol hs
  have hz := wd_same hw (hx.cwd d0) hx9 hy9
  rw [List.map_cons, List.map_cons, show cv ad (.ref x) = cv_r ad x from rfl, show cv ad (.ref y) = cv_r ad y from rfl, ← cv_ro, ← cv_ro]
  exact lv_acmp_ne hx.1 hx.2.1 hdg ht (fun h => kt (fun h2 => h (hz.mpr h2)) cx ad0 n0 p l e s m args below meth c hx d0 ad H locs ls hd he hn hw hS hl hol (ok_t2 hs)) (fun h => kf (hz.mp h) cx ad0 n0 p l e s m args below meth c hx d0 ad H locs ls hd he hn hw hS hl hol (ok_t2 hs))
/-- the keywords' text -/
theorem S_ldcK (hown : M.own = RX9) (hdg : decode M.cc pc = .ok (.ldc 110, 2)) (k : S M Qr cells slots (pc + 2) lv (.ref 20 :: st) μ) : S M Qr cells slots pc lv st μ := by
  intro cx ad0 n0 p l e s m args below meth c hx d0 ad H locs ls hd he hn hw hS hl hol hs
  have h2 := k cx ad0 n0 p l e s m args below meth c hx d0 ad H locs ls hd he hn hw hS hl hol (ok_c (okc hw (by omega)) hs)
  rw [List.map_cons, cv_cad hw (by omega) (by omega)] at h2
  exact va_ldcS hx.1 hx.2.1 (own := RX9) (hown ▸ hx.ownd d0) (vk_R.same (u := s) (U := s.setDrawn d0) rfl hx.2.2.2.2.2.2.2.2.2.2.2.2.2.2.2.2.2.2) hdg h2
theorem S_kcoder {idx : Nat} (hdg : decode M.cc pc = .ok (.getfield idx, 3)) (hlk : Cond.fieldLink M.own idx "java/lang/String" "coder" "B" ∈ ab_WA) (k : S M Qr cells slots (pc + 3) lv (.int 0 :: st) μ) : S M Qr cells slots pc lv (.ref 20 :: st) μ := by
  intro cx ad0 n0 p l e s m args below meth c hx d0 ad H locs ls hd he hn hw hS hl hol hs
  rw [List.map_cons, cv_cad hw (by decide) (by decide)]
  exact vk_getf hx.1 hx.2.1 ((hx.cwd d0).2.2.2.2.2.2.2.2.2.2.2.2.1) hS (hx.ownd d0) (hx.tsd d0 _ hlk) (fun x h => h) hdg (k cx ad0 n0 p l e s m args below meth c hx d0 ad H locs ls hd he hn hw hS hl hol (ok_c trivial (ok_t1 hs)))
theorem S_kvalue {idx : Nat} (hdg : decode M.cc pc = .ok (.getfield idx, 3)) (hlk : Cond.fieldLink M.own idx "java/lang/String" "value" "[B" ∈ ab_WA) (k : S M Qr cells slots (pc + 3) lv (.ref 21 :: st) μ) : S M Qr cells slots pc lv (.ref 20 :: st) μ := by
  intro cx ad0 n0 p l e s m args below meth c hx d0 ad H locs ls hd he hn hw hS hl hol hs
  rw [List.map_cons, cv_cad hw (by decide) (by decide)]
  have h2 := k cx ad0 n0 p l e s m args below meth c hx d0 ad H locs ls hd he hn hw hS hl hol (ok_c (okc hw (by omega)) (ok_t1 hs))
  rw [List.map_cons, cv_cad hw (by decide) (by decide)] at h2
  exact vk_getf hx.1 hx.2.1 ((hx.cwd d0).2.2.2.2.2.2.2.2.2.2.2.2.2.1) hS (hx.ownd d0) (hx.tsd d0 _ hlk) (fun x h => h) hdg h2
theorem S_kbld {i : Int32} (hdg : decode M.cc pc = .ok (.baload, 1)) (hin : inb i 97) (k : S M Qr cells slots (pc + 1) lv (.int (kw_b i.toNatClampNeg) :: st) μ) : S M Qr cells slots pc lv (.int i :: .ref 21 :: st) μ := by
  intro cx ad0 n0 p l e s m args below meth c hx d0 ad H locs ls hd he hn hw hS hl hol hs
  rw [List.map_cons, List.map_cons, cv_cad hw (by decide) (by decide)]
  exact va_tb hx.1 hx.2.1 ((hx.cwd d0).2.2.2.2.2.2.2.2.2.2.2.2.2.2.1) hS (inb_vp hin) rfl hdg (k cx ad0 n0 p l e s m args below meth c hx d0 ad H locs ls hd he hn hw hS hl hol (ok_c trivial (ok_t2 hs)))
theorem S_kblen (hdg : decode M.cc pc = .ok (.arraylength, 1)) (k : S M Qr cells slots (pc + 1) lv (.int 97 :: st) μ) : S M Qr cells slots pc lv (.ref 21 :: st) μ := by
  intro cx ad0 n0 p l e s m args below meth c hx d0 ad H locs ls hd he hn hw hS hl hol hs
  rw [List.map_cons, cv_cad hw (by decide) (by decide)]
  exact va_tlen hx.1 hx.2.1 ((hx.cwd d0).2.2.2.2.2.2.2.2.2.2.2.2.2.2.1) hS rfl hdg (k cx ad0 n0 p l e s m args below meth c hx d0 ad H locs ls hd he hn hw hS hl hol (ok_c trivial (ok_t1 hs)))
/-- a call on the keywords' text -/
theorem S_callK {args : List Value} {idx : Nat} (hdg : decode M.cc pc = .ok (.invokevirtual idx, 3)) (hlk : Cond.methodLink M.own idx K.y ∈ ab_WA) (hin : Cond.instanceMethod K.y ∈ ab_WA) (hse : Cond.selects "java/lang/String" K.y K.y ∈ ab_WA) (hlen : (parseMethodDescriptor K.y.desc).map (fun d => d.parameters.length) = some args.length) (ck : CK M K cells slots) (hW : (st.map fun v => v.category).sum ≤ 8)
    (hM : CN K (.ref 20 :: args) μ Q)
    (kr : ∀ (v : Option Value) (μ' : Mem), Q (.inl v) μ' → S M Qr (cells + K.rm.cells) (slots + K.rm.slots) (pc + 3) lv (v.toList ++ st) μ')
    (kx : ∀ (k : Nat) (μ' : Mem), Q (.inr k) μ' → SX M Qr (cells + K.rm.cells) (slots + K.rm.slots) pc lv st μ' k) : S M Qr cells slots pc lv (args.reverse ++ .ref 20 :: st) μ := by
  obtain ⟨⟨c1, c2, c3⟩, c4, c5, c6, c7⟩ := ck
  refine S_call (fun cx p l e s m av below meth c hx d0 ad H locs ls hw hS => ?_) hM c1 c2 c4 c5 c6 c7 hW (fun hs => ?_) kr kx
  · obtain ⟨cell, g1, g2, g3, -⟩ := ((hx.cwd d0).2.2.2.2.2.2.2.2.2.2.2.1).kept (H1 := H) (fun q h1 h2 => hS.2.1 q h1 h2)
    have := u_invV (p := p) (l := l) (e := e) (R := M.rm) (s := s.setDrawn d0) (m := m) (args := av) (below := below) (meth := meth) (c := c) (H := H) (locs := locs) (cells := cells) (slots := slots) hx.1 (hx.ownd d0) (hx.tsd d0 _ hlk) (hx.tsd d0 _ hin) (hx.tsd d0 _ hse) (hx.tsd d0 _ c1) c3 g1 g2 g3 (g := F0 m pc ls ((args.reverse ++ .ref 20 :: st).map (cv ad))) rfl (argsL := args.map (cv ad)) (rest := st.map (cv ad)) (fun sig h => by rw [List.length_map]; exact ab_hlen hlen sig h) (by show (args.reverse ++ .ref 20 :: st).map (cv ad) = _; rw [List.map_append, List.map_cons, cv_cad hw (by decide) (by decide), List.map_reverse]) (by rw [hx.2.1]; exact hdg)
    rw [List.map_cons, cv_cad hw (by decide) (by decide)]
    exact this
  · have h1 := ok_rev (st := .ref 20 :: st) hs
    exact ⟨ok_c (ok_h h1.2) h1.1, ok_t1 h1.2⟩
theorem u_invU {p : Program} {l : Launch} {e : Env} {R : Room} {s : State} {m : MethodId} {args : Array Value} {below : List Frame} {meth : Method} {c : Code} {H : Heap} {locs : List Loc} {cells slots : Nat} (hexec : p.tables.exec = Jvm.exec) {own C owner : String} {index : Nat} {x y : MethodName}
    (hown : s.vm.findClass own = some m.cls) (hlink : (Cond.methodLink own index x).before args s = true) (hsame : (Cond.sameMethod x.cls owner x.name x.desc).before args s = true)
    (hd0 : va_Decl s ⟨owner, x.name, x.desc⟩) (howner : owner ≠ "java/lang/invoke/MethodHandle" ∧ owner ≠ "java/lang/invoke/VarHandle")
    (hsel : (Cond.selects C x y).before args s = true) (hinst : (Cond.instanceMethod y).before args s = true)
    {b : Addr} {cellB : Cell} (hcell : H[b]? = some cellB) (hobj : cellB.vm.isStatics = false) (hcls : s.vm.findClass C = some cellB.cls)
    {g : JFrame} (hg : g.method = m) {argsL rest : List Value} (hlen : ∀ sig, parseMethodDescriptor x.desc = some sig → argsL.length = sig.parameters.length)
    (hstack : g.stack = argsL.reverse ++ .ref b :: rest) (hdg : decode c.code g.pc = .ok (.invokevirtual index, 3)) :
    u_Inv p l e R s m args below meth c H locs cells slots y (Value.ref b :: argsL) g rest := by
  intro T hT X
  obtain ⟨r0, r, hn, hrm, hstR, hsigR⟩ := hd0
  obtain ⟨cn, ck, r1, hcn, hck, hni, hf, hn1⟩ := Cond.sameMethod_found hsame
  cases hn.symm.trans hn1
  obtain ⟨mk, methM, hnamed, hmethM, -, habM⟩ := Cond.instanceMethod_spec hinst
  obtain ⟨c2, r2, m2, q1, q2, q3, q4, kP, hkP, hkPi⟩ := Cond.selects_spec hsel
  cases hcls.symm.trans q1
  cases hf.symm.trans q2
  cases hnamed.symm.trans q3
  have hselP : selectMethod e.platform s.vm cellB.cls r0 = .method mk := by rw [Launch.admits_selectMethod X.admits]; exact q4
  obtain ⟨vm₁, X₁, hstep₁⟩ := X.invokevirtualUp hexec hown hlink hsame howner hn hrm hstR (a := b) (cell := cellB) (by rw [hT]; exact hcell)
    (fun z h => by rw [h] at hobj; cases hobj) hselP hmethM habM hkP hkPi (g := g) hg (argsL := argsL) (rest := rest) (hlen _ hsigR) hstack hdg
  exact ⟨mk, vm₁, _, X₁, X₁.named hnamed, hdg, fun tgt h => hstep₁ tgt h⟩
/-- word.ordinal() -/
theorem S_callOrd {i r idx : Nat} (hr : r = 2 + i) (hi : i < 16) (hKy : K.y = ⟨"java/lang/Enum", "ordinal", "()I"⟩) (hhh : K.hh = []) (hdg : decode M.cc pc = .ok (.invokevirtual idx, 3)) (hlk : Cond.methodLink M.own idx ⟨RX7, "ordinal", "()I"⟩ ∈ ab_WA) (hsm : Cond.sameMethod RX7 "java/lang/Enum" "ordinal" "()I" ∈ ab_WA) (hin : Cond.instanceMethod K.y ∈ ab_WA) (hse : Cond.selects RX7 ⟨RX7, "ordinal", "()I"⟩ K.y ∈ ab_WA) (ck : CK M K cells slots) (hW : (st.map fun v => v.category).sum ≤ 8)
    (hM : CN K [.ref r] μ Q)
    (kr : ∀ (v : Option Value) (μ' : Mem), Q (.inl v) μ' → S M Qr (cells + K.rm.cells) (slots + K.rm.slots) (pc + 3) lv (v.toList ++ st) μ')
    (kx : ∀ (k : Nat) (μ' : Mem), Q (.inr k) μ' → SX M Qr (cells + K.rm.cells) (slots + K.rm.slots) pc lv st μ' k) : S M Qr cells slots pc lv (.ref r :: st) μ := by
  subst hr
  obtain ⟨⟨c1, c2, c3⟩, c4, c5, c6, c7⟩ := ck
  refine S_call (args := [.ref (2 + i)]) (fun cx p l e s m av below meth c hx d0 ad H locs ls hw hS => ?_) hM c1 c2 c4 c5 c6 c7 hW (fun hs => ⟨ok_c (ok_h hs) (fun v hv => absurd hv List.not_mem_nil), ok_t1 hs⟩) kr kx
  obtain ⟨cell, g1, g2, g3, -⟩ := ((hx.cwd d0).2.2.2.1 i hi).kept (H1 := H) (fun q h1 h2 => hS.2.1 q h1 h2)
  have hD : va_Decl (s.setDrawn d0) ⟨"java/lang/Enum", "ordinal", "()I"⟩ := by
    have hi1 := hx.tsd d0 _ hin
    have hc1 := hx.tsd d0 _ c1
    rw [hKy] at hi1
    rw [hhh, hKy] at hc1
    obtain ⟨mk, methM, hnamed, hmethM, hst, -⟩ := Cond.instanceMethod_spec hi1
    obtain ⟨m9, meth9, c9, h0, h1, h2, -, -, -, -, -, hsig⟩ := ab_code_spec (hh := []) hc1
    cases Option.some.inj (h0.symm.trans hnamed)
    cases Option.some.inj (h1.symm.trans hmethM)
    exact ⟨mk, methM, hnamed, hmethM, hst, hsig⟩
  have := u_invU (p := p) (l := l) (e := e) (R := M.rm) (s := s.setDrawn d0) (m := m) (args := av) (below := below) (meth := meth) (c := c) (H := H) (locs := locs) (cells := cells) (slots := slots) (C := RX7) (owner := "java/lang/Enum") (x := ⟨RX7, "ordinal", "()I"⟩) (y := K.y) hx.1 (hx.ownd d0) (hx.tsd d0 _ hlk) (hx.tsd d0 _ hsm) hD (by decide) (hx.tsd d0 _ hse) (hx.tsd d0 _ hin) g1 g2 g3 (g := F0 m pc ls ((.ref (2 + i) :: st).map (cv ad))) rfl (argsL := []) (rest := st.map (cv ad)) (fun sig h => by rw [show parseMethodDescriptor "()I" = some { parameters := [], returnType := some .int } from by decide +kernel] at h; cases h; rfl) (by show (Value.ref (2 + i) :: st).map (cv ad) = _; rw [List.map_cons, cv_cad hw (by omega) (by omega)]; rfl) (by rw [hx.2.1]; exact hdg)
  rw [List.map_cons, List.map_nil, cv_cad hw (by omega) (by omega)]
  exact this
theorem ent_stC {cx : CX} {ad : Nat → Nat} {a sp b dp n q : Nat} (h : q ≠ b) : ab_ent cx ad (stC μ a sp b dp n) q = ab_ent cx ad μ q := by
  have h1 : gI (stC μ a sp b dp n) q = gI μ q := by funext k; exact if_neg fun hz => h hz.1
  unfold ab_ent ab_fs ab_fv
  rw [h1]
  rfl
theorem stC_row {a sp b dp n : Nat} : gI (stC μ a sp b dp n) b = va_cpy (gI μ a) (gI μ b) sp dp n := by
  funext k
  show (if b = b ∧ dp ≤ k ∧ k < dp + n then _ else _) = _
  unfold va_cpy
  by_cases hk : dp ≤ k ∧ k < dp + n
  · rw [if_pos ⟨rfl, hk⟩, if_pos hk]
  · rw [if_neg fun hz => hk hz.2, if_neg hk]
/-- System.arraycopy of ints, of booleans -/
theorem S_copy {a b idx t0 kk0 : Nat} {sp dp n : Int32} {ty : FieldType} (hty : (kk0 = 101 ∧ t0 = 0 ∧ ty = .int) ∨ (kk0 = 103 ∧ t0 = 2 ∧ ty = .boolean)) (hdg : decode M.cc pc = .ok (.invokestatic idx, 3)) (hlk : Cond.methodLink M.own idx arraycopyName ∈ ab_WA) (hna : Cond.native arraycopyName ∈ ab_WA) (hst : Cond.static arraycopyName ∈ ab_WA) (hini : Cond.initialized "java/lang/System" ∈ ab_WA)
    (ha : gK μ a = kk0) (hb : gK μ b = kk0) (h1 : 0 ≤ sp.toInt) (h2 : 0 ≤ dp.toInt) (h3 : 0 ≤ n.toInt) (h4 : sp.toNatClampNeg + n.toNatClampNeg ≤ gL μ a) (h5 : dp.toNatClampNeg + n.toNatClampNeg ≤ gL μ b)
    (hf : 1 ≤ M.rm.frames) (hlo : 100 ≤ M.rm.locals) (hW : (st.map fun v => v.category).sum ≤ 8) (k : S M Qr cells slots (pc + 3) lv st (stC μ a sp.toNatClampNeg b dp.toNatClampNeg n.toNatClampNeg)) : S M Qr cells slots pc lv (.int n :: .int dp :: .ref b :: .int sp :: .ref a :: st) μ := by
  intro cx ad0 n0 p l e s m args below meth c hx d0 ad H locs ls hd he hn hw hS hl hol hs
  have hoa : ab_own (gK μ a) := by rw [ha]; rcases hty with ⟨h, -⟩ | ⟨h, -⟩ <;> rw [h] <;> exact Or.inr (by omega)
  have hob : ab_own (gK μ b) := by rw [hb]; rcases hty with ⟨h, -⟩ | ⟨h, -⟩ <;> rw [h] <;> exact Or.inr (by omega)
  have hb23 := (hw.2.2.2.2.1 b hob).1
  simp only [List.map_cons]
  rw [ab_own_ne hw hoa, ab_own_ne hw hob]
  have hea := hw.inl hoa
  have heb := hw.inl hob
  have nn : ∀ z : Int32, 0 ≤ z.toInt → ¬ z < 0 := fun z hz h => by rw [Int32.lt_iff_toInt_lt, Int32.toInt_zero] at h; omega
  have hs5 : ok_s (gN μ) st := ok_t2 (ok_t3 hs)
  obtain ⟨cA, hka, hkb, ht, hpr, hfit, hent⟩ : ∃ cA : ClassId, ab_ent cx ad μ a = .inl (cA, gL μ a, .inl (gI μ a)) ∧ ab_ent cx ad μ b = .inl (cA, gL μ b, .inl (gI μ b)) ∧ (ab_tys cx)[t0]? = some (cA, ty) ∧ refKind ty = false ∧ (∀ i, i < n.toNatClampNeg → fits ty (.int (gI μ a (sp.toNatClampNeg + i))) = true) ∧ ab_ent cx ad (stC μ a sp.toNatClampNeg b dp.toNatClampNeg n.toNatClampNeg) b = .inl (cA, gL μ b, .inl (va_cpy (gI μ a) (gI μ b) sp.toNatClampNeg dp.toNatClampNeg n.toNatClampNeg)) := by
    rcases hty with ⟨rfl, rfl, rfl⟩ | ⟨rfl, rfl, rfl⟩
    · exact ⟨cx.cA 0, ent_arr0 ha, ent_arr0 hb, rfl, rfl, fun _ _ => rfl, by rw [ent_arr0 (show gK (stC μ a sp.toNatClampNeg b dp.toNatClampNeg n.toNatClampNeg) b = 101 from hb), stC_row]; rfl⟩
    · refine ⟨cx.cA 2, ent_arr2 ha, ent_arr2 hb, rfl, rfl, fun i _ => ?_, by rw [ent_arr2 (show gK (stC μ a sp.toNatClampNeg b dp.toNatClampNeg n.toNatClampNeg) b = 103 from hb), stC_row]; rfl⟩
      rcases hw.2.2.2.2.2.2.2.2.2 a (sp.toNatClampNeg + i) ha with h | h <;> rw [h] <;> decide
  rw [hka] at hea
  rw [hkb] at heb
  refine va_copyi (D := cx.D) hx.1 hx.2.1 (hx.2.2.1.trans hl.1.symm) (hx.ownd d0) (hx.tsd d0 _ hlk) (hx.tsd d0 _ hna) (hx.tsd d0 _ hst) (hx.tsd d0 _ hini) (hw.Kd d0) hw.2.1 hw.2.2.1 hS (a - 23) (b - 23) t0 t0 hea heb ht ht hpr (nn _ h1) (nn _ h2) (nn _ h3) h4 h5 hfit hf ?_ hdg fun H1 locs1 hP1 hD1 hS1 => ?_
  · rw [cv_sum, show nativeFrameWords "java/lang/System" "arraycopy" 5 + 11 = nativeFrameWords "java/lang/System" "arraycopy" 5 + 11 from rfl]
    have : nativeFrameWords "java/lang/System" "arraycopy" 5 + 11 ≤ 92 := by decide +kernel
    omega
  · refine k cx ad0 n0 p l e s m args below meth c hx d0 ad H1 locs1 ls hd he hn (hw.chg hob rfl rfl rfl ?_ hw.2.2.2.2.2.2.2.2.1 (fun r j hr => ?_) hent (fun q hq => ent_stC hq) hP1 hD1) hS1 hl hol hs5
    · funext k; exact if_neg fun hz => by omega
    · show (if r = b ∧ dp.toNatClampNeg ≤ j ∧ j < dp.toNatClampNeg + n.toNatClampNeg then gI μ a (sp.toNatClampNeg + (j - dp.toNatClampNeg)) else gI μ r j) = 0 ∨ (if r = b ∧ dp.toNatClampNeg ≤ j ∧ j < dp.toNatClampNeg + n.toNatClampNeg then gI μ a (sp.toNatClampNeg + (j - dp.toNatClampNeg)) else gI μ r j) = 1
      split
      · rename_i h
        refine hw.2.2.2.2.2.2.2.2.2 a _ ?_
        rw [ha, ← hb, ← h.1, hr]
      · exact hw.2.2.2.2.2.2.2.2.2 r j hr
end SK

/-! THE LAW'S CASES: each call agrees, and what holds between the calls holds after it (written by wip/gen/mk99.py) -/
theorem KP.i {μ μ' : Mem} {XS : Nat → Int32} (h : KP μ μ') (e : gI μ 1 = XS) : gI μ' 1 = XS := h.1.trans e
theorem KP.l {μ μ' : Mem} {LL : Nat} (h : KP μ μ') (e : gL μ 1 = LL) : gL μ' 1 = LL := h.2.trans e
def LI (x : Nat) (XS : Nat → Int32) (LL : Nat) (μ : Mem) : Prop := (∃ A, INV μ x A) ∧ gI μ 1 = XS ∧ gL μ 1 = LL
def HI (i5 : Int32) (LL : Nat) : Prop := inb (i5 + 1) LL ∧ inb (i5 + 2) LL ∧ inb (i5 + 3) LL ∧ inb (i5 + 4) LL ∧ inb (i5 + 5) LL
def HK (k28 : Nat → Nat → Nat → Nat → Int32 → Mem → Prop) (x : Nat) (XS : Nat → Int32) (LL : Nat) (i5 : Int32) : Prop := ∀ μ', LI x XS LL μ' → k28 x (x + 120) (x + 132) (x + 133) (i5 + 6) μ'
theorem tl3 {v k : Int32} {P Q R : Prop} (h1 : v = k) (h2 : k = 0 → P) (h3 : Q) : if v = k then (if k = 0 then P else Q) else R := by
  rw [if_pos h1]
  split
  · next h => exact h2 h
  · exact h3
theorem if_c {c : Prop} [Decidable c] {P R : Prop} (h1 : c) (h2 : P) : if c then P else R := by rw [if_pos h1]; exact h2
theorem if_n {c : Prop} [Decidable c] {P R : Prop} (h1 : ¬ c) (h2 : R) : if c then P else R := by rw [if_neg h1]; exact h2
theorem cz0 : (0 : Int32).toNatClampNeg = 0 := by decide +kernel
theorem e01 : inb (0 : Int32) 1 := by decide +kernel
theorem cmp0 {μ : Mem} {a : Nat} {v : Int64} (h : gJ μ a 0 = v) : lg_cmp (gJ μ a (0 : Int32).toNatClampNeg) v = 0 := by
  rw [cz0, lg_cmp_eq]; exact h
theorem x9_thr {μ : Mem} {m : Nat} (s : SR μ m) : F_X9_thrown m μ = some (gI μ m 5) := by
  unfold F_X9_thrown
  rw [q_ba s.k0]
theorem pa_o {β : Type} {o : Option β} {μ μ1 : Mem} {v : β} (h : pa o μ = some (v, μ1)) : o = some v ∧ μ = μ1 := by
  unfold pa at h
  cases o with
  | none => cases h
  | some w => cases h; exact ⟨rfl, rfl⟩
section CASE
variable {μ : Mem} {x LL : Nat} {A : SA} {XS : Nat → Int32} {Z : ZT} {k28 : Nat → Nat → Nat → Nat → Int32 → Mem → Prop} {i5 : Int32}
theorem lc_232 (h : INV μ x A) (hl : gL μ 1 = LL) (hs : gI μ 1 = XS) (hi : HI i5 LL) (hk : HK k28 x XS LL i5) : B_L_law_232 Z k28 x (x + 120) (x + 132) (x + 133) i5 μ := by
  unfold B_L_law_232
  obtain ⟨v, μ1, μ2, e1, e2, e5, B, e6⟩ := ld_feed (i1 := (gI μ 1 (i5 + (1 : Int32)).toNatClampNeg)) (i2 := (gI μ 1 (i5 + (2 : Int32)).toNatClampNeg)) (i3 := (gI μ 1 (i5 + (3 : Int32)).toNatClampNeg)) (i4 := (gI μ 1 (i5 + (4 : Int32)).toNatClampNeg)) (i5 := (gI μ 1 (i5 + (5 : Int32)).toNatClampNeg)) h
  have k8 : gK μ1 (x + 120) = 8 := by
    have e9 := e2
    unfold F_X9_feed at e9
    exact (ba_o e9).1
  refine ⟨(hl ▸ hi.1), (hl ▸ hi.2.1), (hl ▸ hi.2.2.1), (hl ▸ hi.2.2.2.1), (hl ▸ hi.2.2.2.2), h.is.kx, ⟨(v, μ1), e1, ?_⟩⟩
  intro kp
  refine ⟨(kp.l hl ▸ hi.1), (kp.l hl ▸ hi.2.1), (kp.l hl ▸ hi.2.2.1), (kp.l hl ▸ hi.2.2.2.1), (kp.l hl ▸ hi.2.2.2.2), k8, ⟨(v, μ2), (by rw [kp.1]; exact e2), fun kp2 => if_c rfl (hk _ ⟨⟨B, e6⟩, kp2.i (kp.i hs), kp2.l (kp.l hl)⟩)⟩⟩
theorem lc_305 (h : INV μ x A) (hl : gL μ 1 = LL) (hs : gI μ 1 = XS) (hi : HI i5 LL) (hk : HK k28 x XS LL i5) : B_L_law_305 Z k28 x (x + 120) (x + 132) (x + 133) i5 μ := by
  unfold B_L_law_305
  obtain ⟨k, μ1, b, μ2, e1, e2, e3, e4, e5, B, e6⟩ := lw_load (i1 := (gI μ 1 (i5 + (1 : Int32)).toNatClampNeg)) h
  have k8 : gK μ1 (x + 120) = 8 := by
    have e9 := e2
    unfold F_X9_load at e9
    exact (ba_o e9).1
  refine ⟨(hl ▸ hi.1), ⟨(k, μ1), e1, fun kp => ?_⟩⟩
  refine ⟨(kp.l hl ▸ hi.1), k8, ⟨(b, μ2), (by rw [kp.1]; exact e2), fun kp2 => ⟨e5.sr.k0, ⟨_, x9_thr e5.sr, ?_⟩⟩⟩⟩
  exact tl3 e3 (fun q => ⟨e5.ko, (e5.lo.symm ▸ e01), if_c (cmp0 (e4 q)) (hk _ ⟨⟨B, e6⟩, kp2.i (kp.i hs), kp2.l (kp.l hl)⟩)⟩) (hk _ ⟨⟨B, e6⟩, kp2.i (kp.i hs), kp2.l (kp.l hl)⟩)
theorem lc_361 (h : INV μ x A) (hl : gL μ 1 = LL) (hs : gI μ 1 = XS) (hi : HI i5 LL) (hk : HK k28 x XS LL i5) : B_L_law_361 Z k28 x (x + 120) (x + 132) (x + 133) i5 μ := by
  unfold B_L_law_361
  obtain ⟨v, μ1, μ2, e1, e2, e5, B, e6⟩ := ld_errorKind  h
  obtain ⟨e0, rfl⟩ := pa_o e1
  have k8 : gK μ (x + 120) = 8 := by
    have e9 := e2
    unfold F_X9_errorKind at e9
    exact (ba_o e9).1
  refine ⟨h.is.kx, ⟨v, e0, ?_⟩⟩
  refine ⟨k8, ⟨(v, μ2), e2, fun kp2 => if_c rfl (hk _ ⟨⟨B, e6⟩, kp2.i hs, kp2.l hl⟩)⟩⟩
theorem lc_374 (h : INV μ x A) (hl : gL μ 1 = LL) (hs : gI μ 1 = XS) (hi : HI i5 LL) (hk : HK k28 x XS LL i5) : B_L_law_374 Z k28 x (x + 120) (x + 132) (x + 133) i5 μ := by
  unfold B_L_law_374
  obtain ⟨v, μ1, μ2, e1, e2, e5, B, e6⟩ := ld_errorPosition  h
  obtain ⟨e0, rfl⟩ := pa_o e1
  have k8 : gK μ (x + 120) = 8 := by
    have e9 := e2
    unfold F_X9_errorPosition at e9
    exact (ba_o e9).1
  refine ⟨h.is.kx, ⟨v, e0, ?_⟩⟩
  refine ⟨k8, ⟨(v, μ2), e2, fun kp2 => if_c rfl (hk _ ⟨⟨B, e6⟩, kp2.i hs, kp2.l hl⟩)⟩⟩
theorem lc_387 (h : INV μ x A) (hl : gL μ 1 = LL) (hs : gI μ 1 = XS) (hi : HI i5 LL) (hk : HK k28 x XS LL i5) : B_L_law_387 Z k28 x (x + 120) (x + 132) (x + 133) i5 μ := by
  unfold B_L_law_387
  obtain ⟨v, μ1, μ2, e1, e2, e5, B, e6⟩ := ld_cardCount  h
  obtain ⟨e0, rfl⟩ := pa_o e1
  have k8 : gK μ (x + 120) = 8 := by
    have e9 := e2
    unfold F_X9_cardCount at e9
    exact (ba_o e9).1
  refine ⟨h.is.kx, ⟨v, e0, ?_⟩⟩
  refine ⟨k8, ⟨(v, μ2), e2, fun kp2 => if_c rfl (hk _ ⟨⟨B, e6⟩, kp2.i hs, kp2.l hl⟩)⟩⟩
theorem lc_400 (h : INV μ x A) (hl : gL μ 1 = LL) (hs : gI μ 1 = XS) (hi : HI i5 LL) (hk : HK k28 x XS LL i5) : B_L_law_400 Z k28 x (x + 120) (x + 132) (x + 133) i5 μ := by
  unfold B_L_law_400
  obtain ⟨k, μ1, b, μ2, e1, e2, e3, e4, e5, B, e6⟩ := lw_column (i1 := (gI μ 1 (i5 + (1 : Int32)).toNatClampNeg)) (i2 := (gI μ 1 (i5 + (2 : Int32)).toNatClampNeg)) h
  have k8 : gK μ1 (x + 120) = 8 := by
    have e9 := e2
    unfold F_X9_column at e9
    exact (ba_o e9).1
  refine ⟨(hl ▸ hi.1), (hl ▸ hi.2.1), ⟨(k, μ1), e1, fun kp => ?_⟩⟩
  refine ⟨(kp.l hl ▸ hi.1), (kp.l hl ▸ hi.2.1), k8, ⟨(b, μ2), (by rw [kp.1]; exact e2), fun kp2 => ⟨e5.sr.k0, ⟨_, x9_thr e5.sr, ?_⟩⟩⟩⟩
  exact tl3 e3 (fun q => ⟨e5.ko, (e5.lo.symm ▸ e01), if_c (cmp0 (e4 q)) (hk _ ⟨⟨B, e6⟩, kp2.i (kp.i hs), kp2.l (kp.l hl)⟩)⟩) (hk _ ⟨⟨B, e6⟩, kp2.i (kp.i hs), kp2.l (kp.l hl)⟩)
theorem lc_468 (h : INV μ x A) (hl : gL μ 1 = LL) (hs : gI μ 1 = XS) (hi : HI i5 LL) (hk : HK k28 x XS LL i5) : B_L_law_468 Z k28 x (x + 120) (x + 132) (x + 133) i5 μ := by
  unfold B_L_law_468
  obtain ⟨k, μ1, b, μ2, e1, e2, e3, e4, e5, B, e6⟩ := lw_fieldValue (i1 := (gI μ 1 (i5 + (1 : Int32)).toNatClampNeg)) (i2 := (gI μ 1 (i5 + (2 : Int32)).toNatClampNeg)) h
  have k8 : gK μ1 (x + 120) = 8 := by
    have e9 := e2
    unfold F_X9_fieldValue at e9
    exact (ba_o e9).1
  refine ⟨(hl ▸ hi.1), (hl ▸ hi.2.1), ⟨(k, μ1), e1, fun kp => ?_⟩⟩
  refine ⟨(kp.l hl ▸ hi.1), (kp.l hl ▸ hi.2.1), k8, ⟨(b, μ2), (by rw [kp.1]; exact e2), fun kp2 => ⟨e5.sr.k0, ⟨_, x9_thr e5.sr, ?_⟩⟩⟩⟩
  exact tl3 e3 (fun q => ⟨e5.ko, (e5.lo.symm ▸ e01), if_c (cmp0 (e4 q)) (hk _ ⟨⟨B, e6⟩, kp2.i (kp.i hs), kp2.l (kp.l hl)⟩)⟩) (hk _ ⟨⟨B, e6⟩, kp2.i (kp.i hs), kp2.l (kp.l hl)⟩)
theorem lc_535 (h : INV μ x A) (hl : gL μ 1 = LL) (hs : gI μ 1 = XS) (hi : HI i5 LL) (hk : HK k28 x XS LL i5) : B_L_law_535 Z k28 x (x + 120) (x + 132) (x + 133) i5 μ := by
  unfold B_L_law_535
  obtain ⟨k, μ1, b, μ2, e1, e2, e3, e4, e5, B, e6⟩ := lw_breakLevel (i1 := (gI μ 1 (i5 + (1 : Int32)).toNatClampNeg)) h
  have k8 : gK μ1 (x + 120) = 8 := by
    have e9 := e2
    unfold F_X9_breakLevel at e9
    exact (ba_o e9).1
  refine ⟨(hl ▸ hi.1), ⟨(k, μ1), e1, fun kp => ?_⟩⟩
  refine ⟨(kp.l hl ▸ hi.1), k8, ⟨(b, μ2), (by rw [kp.1]; exact e2), fun kp2 => ⟨e5.sr.k0, ⟨_, x9_thr e5.sr, ?_⟩⟩⟩⟩
  exact tl3 e3 (fun q => ⟨e5.ko, (e5.lo.symm ▸ e01), if_c (cmp0 (e4 q)) (hk _ ⟨⟨B, e6⟩, kp2.i (kp.i hs), kp2.l (kp.l hl)⟩)⟩) (hk _ ⟨⟨B, e6⟩, kp2.i (kp.i hs), kp2.l (kp.l hl)⟩)
theorem lc_591 (h : INV μ x A) (hl : gL μ 1 = LL) (hs : gI μ 1 = XS) (hi : HI i5 LL) (hk : HK k28 x XS LL i5) : B_L_law_591 Z k28 x (x + 120) (x + 132) (x + 133) i5 μ := by
  unfold B_L_law_591
  obtain ⟨k, μ1, b, μ2, e1, e2, e3, e4, e5, B, e6⟩ := lw_groupCount (i1 := (gI μ 1 (i5 + (1 : Int32)).toNatClampNeg)) h
  have k8 : gK μ1 (x + 120) = 8 := by
    have e9 := e2
    unfold F_X9_groupCount at e9
    obtain ⟨v, -, e⟩ := bd_o e9
    by_cases hv : v = 0
    · rw [if_pos hv] at e; unfold B_X9_groupCount_13 at e; exact (ba_o e).1
    · rw [if_neg hv] at e
      first | exact (ba_o e).1 | (unfold B_X9_groupCount_13 at e; exact (ba_o e).1)
  refine ⟨(hl ▸ hi.1), ⟨(k, μ1), e1, fun kp => ?_⟩⟩
  refine ⟨(kp.l hl ▸ hi.1), k8, ⟨(b, μ2), (by rw [kp.1]; exact e2), fun kp2 => ⟨e5.sr.k0, ⟨_, x9_thr e5.sr, ?_⟩⟩⟩⟩
  exact tl3 e3 (fun q => ⟨e5.ko, (e5.lo.symm ▸ e01), if_c (cmp0 (e4 q)) (hk _ ⟨⟨B, e6⟩, kp2.i (kp.i hs), kp2.l (kp.l hl)⟩)⟩) (hk _ ⟨⟨B, e6⟩, kp2.i (kp.i hs), kp2.l (kp.l hl)⟩)
theorem lc_647 (h : INV μ x A) (hl : gL μ 1 = LL) (hs : gI μ 1 = XS) (hi : HI i5 LL) (hk : HK k28 x XS LL i5) : B_L_law_647 Z k28 x (x + 120) (x + 132) (x + 133) i5 μ := by
  unfold B_L_law_647
  obtain ⟨k, μ1, b, μ2, e1, e2, e3, e4, e5, B, e6⟩ := lw_groupOf (i1 := (gI μ 1 (i5 + (1 : Int32)).toNatClampNeg)) (i2 := (gI μ 1 (i5 + (2 : Int32)).toNatClampNeg)) h
  have k8 : gK μ1 (x + 120) = 8 := by
    have e9 := e2
    unfold F_X9_groupOf at e9
    exact (ba_o e9).1
  refine ⟨(hl ▸ hi.1), (hl ▸ hi.2.1), ⟨(k, μ1), e1, fun kp => ?_⟩⟩
  refine ⟨(kp.l hl ▸ hi.1), (kp.l hl ▸ hi.2.1), k8, ⟨(b, μ2), (by rw [kp.1]; exact e2), fun kp2 => ⟨e5.sr.k0, ⟨_, x9_thr e5.sr, ?_⟩⟩⟩⟩
  exact tl3 e3 (fun q => ⟨e5.ko, (e5.lo.symm ▸ e01), if_c (cmp0 (e4 q)) (hk _ ⟨⟨B, e6⟩, kp2.i (kp.i hs), kp2.l (kp.l hl)⟩)⟩) (hk _ ⟨⟨B, e6⟩, kp2.i (kp.i hs), kp2.l (kp.l hl)⟩)
theorem lc_715 (h : INV μ x A) (hl : gL μ 1 = LL) (hs : gI μ 1 = XS) (hi : HI i5 LL) (hk : HK k28 x XS LL i5) : B_L_law_715 Z k28 x (x + 120) (x + 132) (x + 133) i5 μ := by
  unfold B_L_law_715
  obtain ⟨k, μ1, b, μ2, e1, e2, e3, e4, e5, B, e6⟩ := lw_groupSum (i1 := (gI μ 1 (i5 + (1 : Int32)).toNatClampNeg)) (i2 := (gI μ 1 (i5 + (2 : Int32)).toNatClampNeg)) (i3 := (gI μ 1 (i5 + (3 : Int32)).toNatClampNeg)) h
  have k8 : gK μ1 (x + 120) = 8 := by
    have e9 := e2
    unfold F_X9_groupSum at e9
    exact (ba_o e9).1
  refine ⟨(hl ▸ hi.1), (hl ▸ hi.2.1), (hl ▸ hi.2.2.1), ⟨(k, μ1), e1, fun kp => ?_⟩⟩
  refine ⟨(kp.l hl ▸ hi.1), (kp.l hl ▸ hi.2.1), (kp.l hl ▸ hi.2.2.1), k8, ⟨(b, μ2), (by rw [kp.1]; exact e2), fun kp2 => ⟨e5.sr.k0, ⟨_, x9_thr e5.sr, ?_⟩⟩⟩⟩
  exact tl3 e3 (fun q => ⟨e5.ko, (e5.lo.symm ▸ e01), if_c (cmp0 (e4 q)) (hk _ ⟨⟨B, e6⟩, kp2.i (kp.i hs), kp2.l (kp.l hl)⟩)⟩) (hk _ ⟨⟨B, e6⟩, kp2.i (kp.i hs), kp2.l (kp.l hl)⟩)
theorem lc_794 (h : INV μ x A) (hl : gL μ 1 = LL) (hs : gI μ 1 = XS) (hi : HI i5 LL) (hk : HK k28 x XS LL i5) : B_L_law_794 Z k28 x (x + 120) (x + 132) (x + 133) i5 μ := by
  unfold B_L_law_794
  obtain ⟨k, μ1, b, μ2, e1, e2, e3, e4, e5, B, e6⟩ := lw_greatestGroup (i1 := (gI μ 1 (i5 + (1 : Int32)).toNatClampNeg)) (i2 := (gI μ 1 (i5 + (2 : Int32)).toNatClampNeg)) h
  have k8 : gK μ1 (x + 120) = 8 := by
    have e9 := e2
    unfold F_X9_greatestGroup at e9
    exact (ba_o e9).1
  refine ⟨(hl ▸ hi.1), (hl ▸ hi.2.1), ⟨(k, μ1), e1, fun kp => ?_⟩⟩
  refine ⟨(kp.l hl ▸ hi.1), (kp.l hl ▸ hi.2.1), k8, ⟨(b, μ2), (by rw [kp.1]; exact e2), fun kp2 => ⟨e5.sr.k0, ⟨_, x9_thr e5.sr, ?_⟩⟩⟩⟩
  exact tl3 e3 (fun q => ⟨e5.ko, (e5.lo.symm ▸ e01), if_c (cmp0 (e4 q)) (hk _ ⟨⟨B, e6⟩, kp2.i (kp.i hs), kp2.l (kp.l hl)⟩)⟩) (hk _ ⟨⟨B, e6⟩, kp2.i (kp.i hs), kp2.l (kp.l hl)⟩)
theorem lc_1037 (h : INV μ x A) (hl : gL μ 1 = LL) (hs : gI μ 1 = XS) (hi : HI i5 LL) (hk : HK k28 x XS LL i5) : B_L_law_1037 Z k28 x (x + 120) (x + 132) (x + 133) i5 μ := by
  unfold B_L_law_1037
  obtain ⟨k, μ1, b, μ2, e1, e2, e3, e4, e5, B, e6⟩ := lw_firstOutOfSequence (i1 := (gI μ 1 (i5 + (1 : Int32)).toNatClampNeg)) h
  have k8 : gK μ1 (x + 120) = 8 := by
    have e9 := e2
    unfold F_X9_firstOutOfSequence at e9
    exact (ba_o e9).1
  refine ⟨(hl ▸ hi.1), ⟨(k, μ1), e1, fun kp => ?_⟩⟩
  refine ⟨(kp.l hl ▸ hi.1), k8, ⟨(b, μ2), (by rw [kp.1]; exact e2), fun kp2 => ⟨e5.sr.k0, ⟨_, x9_thr e5.sr, ?_⟩⟩⟩⟩
  exact tl3 e3 (fun q => ⟨e5.ko, (e5.lo.symm ▸ e01), if_c (cmp0 (e4 q)) (hk _ ⟨⟨B, e6⟩, kp2.i (kp.i hs), kp2.l (kp.l hl)⟩)⟩) (hk _ ⟨⟨B, e6⟩, kp2.i (kp.i hs), kp2.l (kp.l hl)⟩)
theorem lc_1093 (h : INV μ x A) (hl : gL μ 1 = LL) (hs : gI μ 1 = XS) (hi : HI i5 LL) (hk : HK k28 x XS LL i5) : B_L_law_1093 Z k28 x (x + 120) (x + 132) (x + 133) i5 μ := by
  unfold B_L_law_1093
  obtain ⟨k, μ1, b, μ2, e1, e2, e3, e4, e5, B, e6⟩ := lw_earlierMatch (i1 := (gI μ 1 (i5 + (1 : Int32)).toNatClampNeg)) (i2 := (gI μ 1 (i5 + (2 : Int32)).toNatClampNeg)) h
  have k8 : gK μ1 (x + 120) = 8 := by
    have e9 := e2
    unfold F_X9_earlierMatch at e9
    exact (ba_o e9).1
  refine ⟨(hl ▸ hi.1), (hl ▸ hi.2.1), ⟨(k, μ1), e1, fun kp => ?_⟩⟩
  refine ⟨(kp.l hl ▸ hi.1), (kp.l hl ▸ hi.2.1), k8, ⟨(b, μ2), (by rw [kp.1]; exact e2), fun kp2 => ⟨e5.sr.k0, ⟨_, x9_thr e5.sr, ?_⟩⟩⟩⟩
  exact tl3 e3 (fun q => ⟨e5.ko, (e5.lo.symm ▸ e01), if_c (cmp0 (e4 q)) (hk _ ⟨⟨B, e6⟩, kp2.i (kp.i hs), kp2.l (kp.l hl)⟩)⟩) (hk _ ⟨⟨B, e6⟩, kp2.i (kp.i hs), kp2.l (kp.l hl)⟩)
theorem lc_1161 (h : INV μ x A) (hl : gL μ 1 = LL) (hs : gI μ 1 = XS) (hi : HI i5 LL) (hk : HK k28 x XS LL i5) : B_L_law_1161 Z k28 x (x + 120) (x + 132) (x + 133) i5 μ := by
  unfold B_L_law_1161
  obtain ⟨k, μ1, b, μ2, e1, e2, e3, e4, e5, B, e6⟩ := lw_sort (i1 := (gI μ 1 (i5 + (1 : Int32)).toNatClampNeg)) h
  have k8 : gK μ1 (x + 120) = 8 := by
    have e9 := e2
    unfold F_X9_sort at e9
    exact (ba_o e9).1
  refine ⟨(hl ▸ hi.1), ⟨(k, μ1), e1, fun kp => ?_⟩⟩
  refine ⟨(kp.l hl ▸ hi.1), k8, ⟨(b, μ2), (by rw [kp.1]; exact e2), fun kp2 => ⟨e5.sr.k0, ⟨_, x9_thr e5.sr, ?_⟩⟩⟩⟩
  exact tl3 e3 (fun q => ⟨e5.ko, (e5.lo.symm ▸ e01), if_c (cmp0 (e4 q)) (hk _ ⟨⟨B, e6⟩, kp2.i (kp.i hs), kp2.l (kp.l hl)⟩)⟩) (hk _ ⟨⟨B, e6⟩, kp2.i (kp.i hs), kp2.l (kp.l hl)⟩)
theorem lc_1217 (h : INV μ x A) (hl : gL μ 1 = LL) (hs : gI μ 1 = XS) (hi : HI i5 LL) (hk : HK k28 x XS LL i5) : B_L_law_1217 Z k28 x (x + 120) (x + 132) (x + 133) i5 μ := by
  unfold B_L_law_1217
  obtain ⟨k, μ1, b, μ2, e1, e2, e3, e4, e5, B, e6⟩ := lw_removeCard (i1 := (gI μ 1 (i5 + (1 : Int32)).toNatClampNeg)) h
  have k8 : gK μ1 (x + 120) = 8 := by
    have e9 := e2
    unfold F_X9_removeCard at e9
    exact (ba_o e9).1
  refine ⟨(hl ▸ hi.1), ⟨(k, μ1), e1, fun kp => ?_⟩⟩
  refine ⟨(kp.l hl ▸ hi.1), k8, ⟨(b, μ2), (by rw [kp.1]; exact e2), fun kp2 => ⟨e5.sr.k0, ⟨_, x9_thr e5.sr, ?_⟩⟩⟩⟩
  exact tl3 e3 (fun q => ⟨e5.ko, (e5.lo.symm ▸ e01), if_c (cmp0 (e4 q)) (hk _ ⟨⟨B, e6⟩, kp2.i (kp.i hs), kp2.l (kp.l hl)⟩)⟩) (hk _ ⟨⟨B, e6⟩, kp2.i (kp.i hs), kp2.l (kp.l hl)⟩)
theorem lc_1273 (h : INV μ x A) (hl : gL μ 1 = LL) (hs : gI μ 1 = XS) (hi : HI i5 LL) (hk : HK k28 x XS LL i5) : B_L_law_1273 Z k28 x (x + 120) (x + 132) (x + 133) i5 μ := by
  unfold B_L_law_1273
  obtain ⟨k, μ1, b, μ2, e1, e2, e3, e4, e5, B, e6⟩ := lw_copyCard (i1 := (gI μ 1 (i5 + (1 : Int32)).toNatClampNeg)) h
  have k8 : gK μ1 (x + 120) = 8 := by
    have e9 := e2
    unfold F_X9_copyCard at e9
    exact (ba_o e9).1
  refine ⟨(hl ▸ hi.1), ⟨(k, μ1), e1, fun kp => ?_⟩⟩
  refine ⟨(kp.l hl ▸ hi.1), k8, ⟨(b, μ2), (by rw [kp.1]; exact e2), fun kp2 => ⟨e5.sr.k0, ⟨_, x9_thr e5.sr, ?_⟩⟩⟩⟩
  exact tl3 e3 (fun q => ⟨e5.ko, (e5.lo.symm ▸ e01), if_c (cmp0 (e4 q)) (hk _ ⟨⟨B, e6⟩, kp2.i (kp.i hs), kp2.l (kp.l hl)⟩)⟩) (hk _ ⟨⟨B, e6⟩, kp2.i (kp.i hs), kp2.l (kp.l hl)⟩)
theorem lc_1329 (h : INV μ x A) (hl : gL μ 1 = LL) (hs : gI μ 1 = XS) (hi : HI i5 LL) (hk : HK k28 x XS LL i5) : B_L_law_1329 Z k28 x (x + 120) (x + 132) (x + 133) i5 μ := by
  unfold B_L_law_1329
  obtain ⟨k, μ1, b, μ2, e1, e2, e3, e4, e5, B, e6⟩ := lw_setColumn (i1 := (gI μ 1 (i5 + (1 : Int32)).toNatClampNeg)) (i2 := (gI μ 1 (i5 + (2 : Int32)).toNatClampNeg)) (i3 := (gI μ 1 (i5 + (3 : Int32)).toNatClampNeg)) h
  have k8 : gK μ1 (x + 120) = 8 := by
    have e9 := e2
    unfold F_X9_setColumn at e9
    exact (ba_o e9).1
  refine ⟨(hl ▸ hi.1), (hl ▸ hi.2.1), (hl ▸ hi.2.2.1), ⟨(k, μ1), e1, fun kp => ?_⟩⟩
  refine ⟨(kp.l hl ▸ hi.1), (kp.l hl ▸ hi.2.1), (kp.l hl ▸ hi.2.2.1), k8, ⟨(b, μ2), (by rw [kp.1]; exact e2), fun kp2 => ⟨e5.sr.k0, ⟨_, x9_thr e5.sr, ?_⟩⟩⟩⟩
  exact tl3 e3 (fun q => ⟨e5.ko, (e5.lo.symm ▸ e01), if_c (cmp0 (e4 q)) (hk _ ⟨⟨B, e6⟩, kp2.i (kp.i hs), kp2.l (kp.l hl)⟩)⟩) (hk _ ⟨⟨B, e6⟩, kp2.i (kp.i hs), kp2.l (kp.l hl)⟩)
theorem lc_1409 (h : INV μ x A) (hl : gL μ 1 = LL) (hs : gI μ 1 = XS) (hi : HI i5 LL) (hk : HK k28 x XS LL i5) : B_L_law_1409 Z k28 x (x + 120) (x + 132) (x + 133) i5 μ := by
  unfold B_L_law_1409
  obtain ⟨k, μ1, b, μ2, e1, e2, e3, e4, e5, B, e6⟩ := lw_plugCounter (i1 := (gI μ 1 (i5 + (1 : Int32)).toNatClampNeg)) (i2 := (gI μ 1 (i5 + (2 : Int32)).toNatClampNeg)) (i3 := (gI μ 1 (i5 + (3 : Int32)).toNatClampNeg)) h
  have k8 : gK μ1 (x + 120) = 8 := by
    have e9 := e2
    unfold F_X9_plugCounter at e9
    exact (ba_o e9).1
  refine ⟨(hl ▸ hi.1), (hl ▸ hi.2.1), (hl ▸ hi.2.2.1), ⟨(k, μ1), e1, fun kp => ?_⟩⟩
  refine ⟨(kp.l hl ▸ hi.1), (kp.l hl ▸ hi.2.1), (kp.l hl ▸ hi.2.2.1), k8, ⟨(b, μ2), (by rw [kp.1]; exact e2), fun kp2 => ⟨e5.sr.k0, ⟨_, x9_thr e5.sr, ?_⟩⟩⟩⟩
  exact tl3 e3 (fun q => ⟨e5.ko, (e5.lo.symm ▸ e01), if_c (cmp0 (e4 q)) (hk _ ⟨⟨B, e6⟩, kp2.i (kp.i hs), kp2.l (kp.l hl)⟩)⟩) (hk _ ⟨⟨B, e6⟩, kp2.i (kp.i hs), kp2.l (kp.l hl)⟩)
theorem lc_1585 (h : INV μ x A) (hl : gL μ 1 = LL) (hs : gI μ 1 = XS) (hi : HI i5 LL) (hk : HK k28 x XS LL i5) : B_L_law_1585 Z k28 x (x + 120) (x + 132) (x + 133) i5 μ := by
  unfold B_L_law_1585
  obtain ⟨k, μ1, b, μ2, e1, e2, e3, e4, e5, B, e6⟩ := lw_plugControl (i1 := (gI μ 1 (i5 + (1 : Int32)).toNatClampNeg)) (i2 := (gI μ 1 (i5 + (2 : Int32)).toNatClampNeg)) h
  have k8 : gK μ1 (x + 120) = 8 := by
    have e9 := e2
    unfold F_X9_plugControl at e9
    exact (ba_o e9).1
  refine ⟨(hl ▸ hi.1), (hl ▸ hi.2.1), ⟨(k, μ1), e1, fun kp => ?_⟩⟩
  refine ⟨(kp.l hl ▸ hi.1), (kp.l hl ▸ hi.2.1), k8, ⟨(b, μ2), (by rw [kp.1]; exact e2), fun kp2 => ⟨e5.sr.k0, ⟨_, x9_thr e5.sr, ?_⟩⟩⟩⟩
  exact tl3 e3 (fun q => ⟨e5.ko, (e5.lo.symm ▸ e01), if_c (cmp0 (e4 q)) (hk _ ⟨⟨B, e6⟩, kp2.i (kp.i hs), kp2.l (kp.l hl)⟩)⟩) (hk _ ⟨⟨B, e6⟩, kp2.i (kp.i hs), kp2.l (kp.l hl)⟩)
theorem lc_1653 (h : INV μ x A) (hl : gL μ 1 = LL) (hs : gI μ 1 = XS) (hi : HI i5 LL) (hk : HK k28 x XS LL i5) : B_L_law_1653 Z k28 x (x + 120) (x + 132) (x + 133) i5 μ := by
  unfold B_L_law_1653
  obtain ⟨k, μ1, b, μ2, e1, e2, e3, e4, e5, B, e6⟩ := lw_restack  h
  have k8 : gK μ1 (x + 120) = 8 := by
    have e9 := e2
    unfold F_X9_restack at e9
    exact (ba_o e9).1
  refine ⟨(k, μ1), e1, fun kp => ?_⟩
  refine ⟨k8, ⟨(b, μ2), e2, fun kp2 => ⟨e5.sr.k0, ⟨_, x9_thr e5.sr, ?_⟩⟩⟩⟩
  exact tl3 e3 (fun q => ⟨e5.ko, (e5.lo.symm ▸ e01), if_c (cmp0 (e4 q)) (hk _ ⟨⟨B, e6⟩, kp2.i (kp.i hs), kp2.l (kp.l hl)⟩)⟩) (hk _ ⟨⟨B, e6⟩, kp2.i (kp.i hs), kp2.l (kp.l hl)⟩)
theorem lc_1708 (h : INV μ x A) (hl : gL μ 1 = LL) (hs : gI μ 1 = XS) (hi : HI i5 LL) (hk : HK k28 x XS LL i5) : B_L_law_1708 Z k28 x (x + 120) (x + 132) (x + 133) i5 μ := by
  unfold B_L_law_1708
  obtain ⟨k, μ1, b, μ2, e1, e2, e3, e4, e5, B, e6⟩ := lw_run (i1 := (gI μ 1 (i5 + (1 : Int32)).toNatClampNeg)) h
  have k8 : gK μ1 (x + 120) = 8 := by
    have e9 := e2
    unfold F_X9_run at e9
    obtain ⟨v, -, e⟩ := bd_o e9
    by_cases hv : v = 0
    · rw [if_pos hv] at e; unfold B_X9_run_34 at e; exact (ba_o e).1
    · rw [if_neg hv] at e
      first | exact (ba_o e).1 | (unfold B_X9_run_34 at e; exact (ba_o e).1)
  refine ⟨(hl ▸ hi.1), ⟨(k, μ1), e1, fun kp => ?_⟩⟩
  refine ⟨(kp.l hl ▸ hi.1), k8, ⟨(b, μ2), (by rw [kp.1]; exact e2), fun kp2 => ⟨e5.sr.k0, ⟨_, x9_thr e5.sr, ?_⟩⟩⟩⟩
  exact tl3 e3 (fun q => ⟨e5.ko, (e5.lo.symm ▸ e01), if_c (cmp0 (e4 q)) (hk _ ⟨⟨B, e6⟩, kp2.i (kp.i hs), kp2.l (kp.l hl)⟩)⟩) (hk _ ⟨⟨B, e6⟩, kp2.i (kp.i hs), kp2.l (kp.l hl)⟩)
theorem lc_1764 (h : INV μ x A) (hl : gL μ 1 = LL) (hs : gI μ 1 = XS) (hi : HI i5 LL) (hk : HK k28 x XS LL i5) : B_L_law_1764 Z k28 x (x + 120) (x + 132) (x + 133) i5 μ := by
  unfold B_L_law_1764
  obtain ⟨k, μ1, b, μ2, e1, e2, e3, e4, e5, B, e6⟩ := lw_finish  h
  have k8 : gK μ1 (x + 120) = 8 := by
    have e9 := e2
    unfold F_X9_finish at e9
    exact (ba_o e9).1
  refine ⟨(k, μ1), e1, fun kp => ?_⟩
  refine ⟨k8, ⟨(b, μ2), e2, fun kp2 => ⟨e5.sr.k0, ⟨_, x9_thr e5.sr, ?_⟩⟩⟩⟩
  exact tl3 e3 (fun q => ⟨e5.ko, (e5.lo.symm ▸ e01), if_c (cmp0 (e4 q)) (hk _ ⟨⟨B, e6⟩, kp2.i (kp.i hs), kp2.l (kp.l hl)⟩)⟩) (hk _ ⟨⟨B, e6⟩, kp2.i (kp.i hs), kp2.l (kp.l hl)⟩)
theorem lc_1808 (h : INV μ x A) (hl : gL μ 1 = LL) (hs : gI μ 1 = XS) (hi : HI i5 LL) (hk : HK k28 x XS LL i5) : B_L_law_1808 Z k28 x (x + 120) (x + 132) (x + 133) i5 μ := by
  unfold B_L_law_1808
  obtain ⟨v, μ1, μ2, e1, e2, e5, B, e6⟩ := ld_processed  h
  obtain ⟨e0, rfl⟩ := pa_o e1
  have k8 : gK μ (x + 120) = 8 := by
    have e9 := e2
    unfold F_X9_processed at e9
    exact (ba_o e9).1
  refine ⟨h.is.kx, ⟨v, e0, ?_⟩⟩
  refine ⟨k8, ⟨(v, μ2), e2, fun kp2 => if_c rfl (hk _ ⟨⟨B, e6⟩, kp2.i hs, kp2.l hl⟩)⟩⟩
theorem lc_1821 (h : INV μ x A) (hl : gL μ 1 = LL) (hs : gI μ 1 = XS) (hi : HI i5 LL) (hk : HK k28 x XS LL i5) : B_L_law_1821 Z k28 x (x + 120) (x + 132) (x + 133) i5 μ := by
  unfold B_L_law_1821
  obtain ⟨k, μ1, b, μ2, e1, e2, e3, e4, e5, B, e6⟩ := lw_counter (i1 := (gI μ 1 (i5 + (1 : Int32)).toNatClampNeg)) h
  have k8 : gK μ1 (x + 120) = 8 := by
    have e9 := e2
    unfold F_X9_counter_ at e9
    exact (ba_o e9).1
  refine ⟨(hl ▸ hi.1), ⟨(k, μ1), e1, fun kp => ?_⟩⟩
  refine ⟨(kp.l hl ▸ hi.1), k8, ⟨(b, μ2), (by rw [kp.1]; exact e2), fun kp2 => ⟨e5.sr.k0, ⟨_, x9_thr e5.sr, ?_⟩⟩⟩⟩
  exact tl3 e3 (fun q => ⟨e5.ko, (e5.lo.symm ▸ e01), if_c (cmp0 (e4 q)) (hk _ ⟨⟨B, e6⟩, kp2.i (kp.i hs), kp2.l (kp.l hl)⟩)⟩) (hk _ ⟨⟨B, e6⟩, kp2.i (kp.i hs), kp2.l (kp.l hl)⟩)
theorem lc_1877 (h : INV μ x A) (hl : gL μ 1 = LL) (hs : gI μ 1 = XS) (hi : HI i5 LL) (hk : HK k28 x XS LL i5) : B_L_law_1877 Z k28 x (x + 120) (x + 132) (x + 133) i5 μ := by
  unfold B_L_law_1877
  obtain ⟨k, μ1, b, μ2, e1, e2, e3, e4, e5, B, e6⟩ := lw_overflows (i1 := (gI μ 1 (i5 + (1 : Int32)).toNatClampNeg)) h
  have k8 : gK μ1 (x + 120) = 8 := by
    have e9 := e2
    unfold F_X9_overflows at e9
    exact (ba_o e9).1
  refine ⟨(hl ▸ hi.1), ⟨(k, μ1), e1, fun kp => ?_⟩⟩
  refine ⟨(kp.l hl ▸ hi.1), k8, ⟨(b, μ2), (by rw [kp.1]; exact e2), fun kp2 => ⟨e5.sr.k0, ⟨_, x9_thr e5.sr, ?_⟩⟩⟩⟩
  exact tl3 e3 (fun q => ⟨e5.ko, (e5.lo.symm ▸ e01), if_c (cmp0 (e4 q)) (hk _ ⟨⟨B, e6⟩, kp2.i (kp.i hs), kp2.l (kp.l hl)⟩)⟩) (hk _ ⟨⟨B, e6⟩, kp2.i (kp.i hs), kp2.l (kp.l hl)⟩)
theorem lc_1996 (h : INV μ x A) (hl : gL μ 1 = LL) (hs : gI μ 1 = XS) (hi : HI i5 LL) (hk : HK k28 x XS LL i5) : B_L_law_1996 Z k28 x (x + 120) (x + 132) (x + 133) i5 μ := by
  unfold B_L_law_1996
  obtain ⟨k, μ1, b, μ2, e1, e2, e3, e4, e5, B, e6⟩ := lw_groups (i1 := (gI μ 1 (i5 + (1 : Int32)).toNatClampNeg)) h
  have k8 : gK μ1 (x + 120) = 8 := by
    have e9 := e2
    unfold F_X9_groups at e9
    obtain ⟨v, -, e⟩ := bd_o e9
    by_cases hv : v = 0
    · rw [if_pos hv] at e; unfold B_X9_groups_13 at e; exact (ba_o e).1
    · rw [if_neg hv] at e
      first | exact (ba_o e).1 | (unfold B_X9_groups_13 at e; exact (ba_o e).1)
  refine ⟨(hl ▸ hi.1), ⟨(k, μ1), e1, fun kp => ?_⟩⟩
  refine ⟨(kp.l hl ▸ hi.1), k8, ⟨(b, μ2), (by rw [kp.1]; exact e2), fun kp2 => ⟨e5.sr.k0, ⟨_, x9_thr e5.sr, ?_⟩⟩⟩⟩
  exact tl3 e3 (fun q => ⟨e5.ko, (e5.lo.symm ▸ e01), if_c (cmp0 (e4 q)) (hk _ ⟨⟨B, e6⟩, kp2.i (kp.i hs), kp2.l (kp.l hl)⟩)⟩) (hk _ ⟨⟨B, e6⟩, kp2.i (kp.i hs), kp2.l (kp.l hl)⟩)
theorem lc_2052 (h : INV μ x A) (hl : gL μ 1 = LL) (hs : gI μ 1 = XS) (hi : HI i5 LL) (hk : HK k28 x XS LL i5) : B_L_law_2052 Z k28 x (x + 120) (x + 132) (x + 133) i5 μ := by
  unfold B_L_law_2052
  obtain ⟨v, μ1, μ2, e1, e2, e5, B, e6⟩ := ld_lineCount  h
  obtain ⟨e0, rfl⟩ := pa_o e1
  have k8 : gK μ (x + 120) = 8 := by
    have e9 := e2
    unfold F_X9_lineCount at e9
    exact (ba_o e9).1
  refine ⟨h.is.kx, ⟨v, e0, ?_⟩⟩
  refine ⟨k8, ⟨(v, μ2), e2, fun kp2 => if_c rfl (hk _ ⟨⟨B, e6⟩, kp2.i hs, kp2.l hl⟩)⟩⟩
theorem lc_2065 (h : INV μ x A) (hl : gL μ 1 = LL) (hs : gI μ 1 = XS) (hi : HI i5 LL) (hk : HK k28 x XS LL i5) : B_L_law_2065 Z k28 x (x + 120) (x + 132) (x + 133) i5 μ := by
  unfold B_L_law_2065
  obtain ⟨k, μ1, b, μ2, e1, e2, e3, e4, e5, B, e6⟩ := lw_lineCharacter (i1 := (gI μ 1 (i5 + (1 : Int32)).toNatClampNeg)) (i2 := (gI μ 1 (i5 + (2 : Int32)).toNatClampNeg)) h
  have k8 : gK μ1 (x + 120) = 8 := by
    have e9 := e2
    unfold F_X9_lineCharacter at e9
    exact (ba_o e9).1
  refine ⟨(hl ▸ hi.1), (hl ▸ hi.2.1), ⟨(k, μ1), e1, fun kp => ?_⟩⟩
  refine ⟨(kp.l hl ▸ hi.1), (kp.l hl ▸ hi.2.1), k8, ⟨(b, μ2), (by rw [kp.1]; exact e2), fun kp2 => ⟨e5.sr.k0, ⟨_, x9_thr e5.sr, ?_⟩⟩⟩⟩
  exact tl3 e3 (fun q => ⟨e5.ko, (e5.lo.symm ▸ e01), if_c (cmp0 (e4 q)) (hk _ ⟨⟨B, e6⟩, kp2.i (kp.i hs), kp2.l (kp.l hl)⟩)⟩) (hk _ ⟨⟨B, e6⟩, kp2.i (kp.i hs), kp2.l (kp.l hl)⟩)
theorem lc_2133 (h : INV μ x A) (hl : gL μ 1 = LL) (hs : gI μ 1 = XS) (hi : HI i5 LL) (hk : HK k28 x XS LL i5) : B_L_law_2133 Z k28 x (x + 120) (x + 132) (x + 133) i5 μ := by
  unfold B_L_law_2133
  obtain ⟨k, μ1, b, μ2, e1, e2, e3, e4, e5, B, e6⟩ := lw_lineLevel (i1 := (gI μ 1 (i5 + (1 : Int32)).toNatClampNeg)) h
  have k8 : gK μ1 (x + 120) = 8 := by
    have e9 := e2
    unfold F_X9_lineLevel at e9
    exact (ba_o e9).1
  refine ⟨(hl ▸ hi.1), ⟨(k, μ1), e1, fun kp => ?_⟩⟩
  refine ⟨(kp.l hl ▸ hi.1), k8, ⟨(b, μ2), (by rw [kp.1]; exact e2), fun kp2 => ⟨e5.sr.k0, ⟨_, x9_thr e5.sr, ?_⟩⟩⟩⟩
  exact tl3 e3 (fun q => ⟨e5.ko, (e5.lo.symm ▸ e01), if_c (cmp0 (e4 q)) (hk _ ⟨⟨B, e6⟩, kp2.i (kp.i hs), kp2.l (kp.l hl)⟩)⟩) (hk _ ⟨⟨B, e6⟩, kp2.i (kp.i hs), kp2.l (kp.l hl)⟩)
theorem lc_2189 (h : INV μ x A) (hl : gL μ 1 = LL) (hs : gI μ 1 = XS) (hi : HI i5 LL) (hk : HK k28 x XS LL i5) : B_L_law_2189 Z k28 x (x + 120) (x + 132) (x + 133) i5 μ := by
  unfold B_L_law_2189
  obtain ⟨v, μ1, μ2, e1, e2, e5, B, e6⟩ := ld_summaryCount  h
  obtain ⟨e0, rfl⟩ := pa_o e1
  have k8 : gK μ (x + 120) = 8 := by
    have e9 := e2
    unfold F_X9_summaryCount at e9
    exact (ba_o e9).1
  refine ⟨h.is.kx, ⟨v, e0, ?_⟩⟩
  refine ⟨k8, ⟨(v, μ2), e2, fun kp2 => if_c rfl (hk _ ⟨⟨B, e6⟩, kp2.i hs, kp2.l hl⟩)⟩⟩
theorem lc_2202 (h : INV μ x A) (hl : gL μ 1 = LL) (hs : gI μ 1 = XS) (hi : HI i5 LL) (hk : HK k28 x XS LL i5) : B_L_law_2202 Z k28 x (x + 120) (x + 132) (x + 133) i5 μ := by
  unfold B_L_law_2202
  obtain ⟨k, μ1, b, μ2, e1, e2, e3, e4, e5, B, e6⟩ := lw_summaryColumn (i1 := (gI μ 1 (i5 + (1 : Int32)).toNatClampNeg)) (i2 := (gI μ 1 (i5 + (2 : Int32)).toNatClampNeg)) h
  have k8 : gK μ1 (x + 120) = 8 := by
    have e9 := e2
    unfold F_X9_summaryColumn at e9
    exact (ba_o e9).1
  refine ⟨(hl ▸ hi.1), (hl ▸ hi.2.1), ⟨(k, μ1), e1, fun kp => ?_⟩⟩
  refine ⟨(kp.l hl ▸ hi.1), (kp.l hl ▸ hi.2.1), k8, ⟨(b, μ2), (by rw [kp.1]; exact e2), fun kp2 => ⟨e5.sr.k0, ⟨_, x9_thr e5.sr, ?_⟩⟩⟩⟩
  exact tl3 e3 (fun q => ⟨e5.ko, (e5.lo.symm ▸ e01), if_c (cmp0 (e4 q)) (hk _ ⟨⟨B, e6⟩, kp2.i (kp.i hs), kp2.l (kp.l hl)⟩)⟩) (hk _ ⟨⟨B, e6⟩, kp2.i (kp.i hs), kp2.l (kp.l hl)⟩)
theorem lc_2270 (h : INV μ x A) (hl : gL μ 1 = LL) (hs : gI μ 1 = XS) (hi : HI i5 LL) (hk : HK k28 x XS LL i5) : B_L_law_2270 Z k28 x (x + 120) (x + 132) (x + 133) i5 μ := by
  unfold B_L_law_2270
  obtain ⟨v, μ1, μ2, e1, e2, e5, B, e6⟩ := lw_linesOfRun  h
  have k8 : gK μ1 (x + 120) = 8 := by
    have e9 := e2
    unfold F_X9_linesOfRun at e9
    exact (ba_o e9).1
  refine ⟨h.is.kx, ⟨(v, μ1), e1, ?_⟩⟩
  intro kp
  refine ⟨k8, ⟨(v, μ2), e2, fun kp2 => if_c rfl (hk _ ⟨⟨B, e6⟩, kp2.i (kp.i hs), kp2.l (kp.l hl)⟩)⟩⟩
theorem lc_2283 (h : INV μ x A) (hl : gL μ 1 = LL) (hs : gI μ 1 = XS) (hi : HI i5 LL) (hk : HK k28 x XS LL i5) : B_L_law_2283 Z k28 x (x + 120) (x + 132) (x + 133) i5 μ := by
  unfold B_L_law_2283
  obtain ⟨k, μ1, b, μ2, e1, e2, e3, e4, e5, B, e6⟩ := lw_neededWidth (i1 := (gI μ 1 (i5 + (1 : Int32)).toNatClampNeg)) h
  have k8 : gK μ1 (x + 120) = 8 := by
    have e9 := e2
    unfold F_X9_neededWidth at e9
    exact (ba_o e9).1
  refine ⟨(hl ▸ hi.1), ⟨(k, μ1), e1, fun kp => ?_⟩⟩
  refine ⟨(kp.l hl ▸ hi.1), k8, ⟨(b, μ2), (by rw [kp.1]; exact e2), fun kp2 => ⟨e5.sr.k0, ⟨_, x9_thr e5.sr, ?_⟩⟩⟩⟩
  exact tl3 e3 (fun q => ⟨e5.ko, (e5.lo.symm ▸ e01), if_c (cmp0 (e4 q)) (hk _ ⟨⟨B, e6⟩, kp2.i (kp.i hs), kp2.l (kp.l hl)⟩)⟩) (hk _ ⟨⟨B, e6⟩, kp2.i (kp.i hs), kp2.l (kp.l hl)⟩)
theorem lc_2339 (h : INV μ x A) (hl : gL μ 1 = LL) (hs : gI μ 1 = XS) (hi : HI i5 LL) (hk : HK k28 x XS LL i5) : B_L_law_2339 Z k28 x (x + 120) (x + 132) (x + 133) i5 μ := by
  unfold B_L_law_2339
  obtain ⟨k, μ1, b, μ2, e1, e2, e3, e4, e5, B, e6⟩ := lw_linesDependingOn (i1 := (gI μ 1 (i5 + (1 : Int32)).toNatClampNeg)) h
  have k8 : gK μ1 (x + 120) = 8 := by
    have e9 := e2
    unfold F_X9_linesDependingOn at e9
    exact (ba_o e9).1
  refine ⟨(hl ▸ hi.1), ⟨(k, μ1), e1, fun kp => ?_⟩⟩
  refine ⟨(kp.l hl ▸ hi.1), k8, ⟨(b, μ2), (by rw [kp.1]; exact e2), fun kp2 => ⟨e5.sr.k0, ⟨_, x9_thr e5.sr, ?_⟩⟩⟩⟩
  exact tl3 e3 (fun q => ⟨e5.ko, (e5.lo.symm ▸ e01), if_c (cmp0 (e4 q)) (hk _ ⟨⟨B, e6⟩, kp2.i (kp.i hs), kp2.l (kp.l hl)⟩)⟩) (hk _ ⟨⟨B, e6⟩, kp2.i (kp.i hs), kp2.l (kp.l hl)⟩)
theorem lc_2395 (h : INV μ x A) (hl : gL μ 1 = LL) (hs : gI μ 1 = XS) (hi : HI i5 LL) (hk : HK k28 x XS LL i5) : B_L_law_2395 Z k28 x (x + 120) (x + 132) (x + 133) i5 μ := by
  unfold B_L_law_2395
  obtain ⟨k, μ1, b, μ2, e1, e2, e3, e4, e5, B, e6⟩ := lw_crossfootErrors (i1 := (gI μ 1 (i5 + (1 : Int32)).toNatClampNeg)) (i2 := (gI μ 1 (i5 + (2 : Int32)).toNatClampNeg)) (i3 := (gI μ 1 (i5 + (3 : Int32)).toNatClampNeg)) h
  have k8 : gK μ1 (x + 120) = 8 := by
    have e9 := e2
    unfold F_X9_crossfootErrors at e9
    exact (ba_o e9).1
  refine ⟨(hl ▸ hi.1), (hl ▸ hi.2.1), (hl ▸ hi.2.2.1), ⟨(k, μ1), e1, fun kp => ?_⟩⟩
  refine ⟨(kp.l hl ▸ hi.1), (kp.l hl ▸ hi.2.1), (kp.l hl ▸ hi.2.2.1), k8, ⟨(b, μ2), (by rw [kp.1]; exact e2), fun kp2 => ⟨e5.sr.k0, ⟨_, x9_thr e5.sr, ?_⟩⟩⟩⟩
  exact tl3 e3 (fun q => ⟨e5.ko, (e5.lo.symm ▸ e01), if_c (cmp0 (e4 q)) (hk _ ⟨⟨B, e6⟩, kp2.i (kp.i hs), kp2.l (kp.l hl)⟩)⟩) (hk _ ⟨⟨B, e6⟩, kp2.i (kp.i hs), kp2.l (kp.l hl)⟩)
theorem lc_2511 (h : INV μ x A) (hl : gL μ 1 = LL) (hs : gI μ 1 = XS) (hi : HI i5 LL) (hk : HK k28 x XS LL i5) : B_L_law_2511 Z k28 x (x + 120) (x + 132) (x + 133) i5 μ := by
  unfold B_L_law_2511
  obtain ⟨k, μ1, b, μ2, e1, e2, e3, e4, e5, B, e6⟩ := lw_restore (i1 := (gI μ 1 (i5 + (1 : Int32)).toNatClampNeg)) h
  have k8 : gK μ1 (x + 120) = 8 := by
    have e9 := e2
    unfold F_X9_restore at e9
    obtain ⟨v, -, e⟩ := bd_o e9
    by_cases hv : v = 0
    · rw [if_pos hv] at e; unfold B_X9_restore_26 at e; exact (ba_o e).1
    · rw [if_neg hv] at e
      first | exact (ba_o e).1 | (unfold B_X9_restore_26 at e; exact (ba_o e).1)
  refine ⟨(hl ▸ hi.1), ⟨(k, μ1), e1, fun kp => ?_⟩⟩
  refine ⟨(kp.l hl ▸ hi.1), k8, ⟨(b, μ2), (by rw [kp.1]; exact e2), fun kp2 => ⟨e5.sr.k0, ⟨_, x9_thr e5.sr, ?_⟩⟩⟩⟩
  exact tl3 e3 (fun q => ⟨e5.ko, (e5.lo.symm ▸ e01), if_c (cmp0 (e4 q)) (hk _ ⟨⟨B, e6⟩, kp2.i (kp.i hs), kp2.l (kp.l hl)⟩)⟩) (hk _ ⟨⟨B, e6⟩, kp2.i (kp.i hs), kp2.l (kp.l hl)⟩)
theorem x9_sel01 {m : Nat} {i b : Int32} {μ1 μ2 : Mem} (h : F_X9_isSelected m i μ1 = some (b, μ2)) : b = 0 ∨ b = 1 := by
  unfold F_X9_isSelected at h
  obtain ⟨_, h⟩ := ba_o h
  obtain ⟨_, h⟩ := ba_o h
  obtain ⟨_, h⟩ := ba_o h
  obtain ⟨_, _, h⟩ := bd_o h
  obtain ⟨v, ν, _, h⟩ := bp_o h
  by_cases h1 : v = 0
  · rw [if_pos h1] at h; cases h; exact Or.inl rfl
  · rw [if_neg h1] at h
    obtain ⟨_, h⟩ := ba_o h
    obtain ⟨_, h⟩ := ba_o h
    obtain ⟨_, h⟩ := ba_o h
    split at h
    · cases h; exact Or.inr rfl
    · cases h; exact Or.inl rfl
theorem lc_1933 (h : INV μ x A) (hl : gL μ 1 = LL) (hs : gI μ 1 = XS) (hi : HI i5 LL) (hk : HK k28 x XS LL i5) : B_L_law_1933 Z k28 x (x + 120) (x + 132) (x + 133) i5 μ := by
  unfold B_L_law_1933
  obtain ⟨k, μ1, b, μ2, e1, e2, e3, e4, e5, B, e6⟩ := lw_isSelected (i1 := (gI μ 1 (i5 + (1 : Int32)).toNatClampNeg)) h
  have k8 : gK μ1 (x + 120) = 8 := by
    have e9 := e2
    unfold F_X9_isSelected at e9
    exact (ba_o e9).1
  have fin : B_L_law_1993 Z k28 x (x + 120) (x + 132) (x + 133) i5 μ2 → True := fun _ => trivial
  refine ⟨(hl ▸ hi.1), ⟨(k, μ1), e1, fun kp => ?_⟩⟩
  refine ⟨(kp.l hl ▸ hi.1), k8, ⟨(b, μ2), (by rw [kp.1]; exact e2), fun kp2 => ⟨e5.sr.k0, ⟨_, x9_thr e5.sr, ?_⟩⟩⟩⟩
  have fin : B_L_law_1993 Z k28 x (x + 120) (x + 132) (x + 133) i5 μ2 := hk _ ⟨⟨B, e6⟩, kp2.i (kp.i hs), kp2.l (kp.l hl)⟩
  refine tl3 e3 (fun q => ⟨e5.ko, (e5.lo.symm ▸ e01), ?_⟩) fin
  have e7 := e4 q
  rcases x9_sel01 e2 with rfl | rfl
  · exact if_c rfl (by unfold B_L_law_1987; exact if_c (cmp0 e7) fin)
  · exact if_n (show ¬ (1 : Int32) = 0 by decide) (by unfold B_L_law_1987; exact if_c (cmp0 e7) fin)
theorem lc_1489 (h : INV μ x A) (hl : gL μ 1 = LL) (hs : gI μ 1 = XS) (hi : HI i5 LL) (hk : HK k28 x XS LL i5) : B_L_law_1489 Z k28 x (x + 120) (x + 132) (x + 133) i5 μ := by
  unfold B_L_law_1489
  have key : ∀ t : Int32, (∀ (ν : Mem), KP μ ν → ∀ P : Int32 → Prop, P t → (if (gI ν 1 (i5 + (3 : Int32)).toNatClampNeg) = 0 then P 0 else P 1)) → B_L_law_1516 Z k28 x (x + 120) (x + 132) (x + 133) i5 t (gI μ 1 (i5 + (2 : Int32)).toNatClampNeg) (gI μ 1 (i5 + (1 : Int32)).toNatClampNeg) x μ := by
    intro t ht
    unfold B_L_law_1516
    obtain ⟨k, μ1, b, μ2, e1, e2, e3, e4, e5, B, e6⟩ := lw_plugSelector (i1 := (gI μ 1 (i5 + (1 : Int32)).toNatClampNeg)) (i2 := (gI μ 1 (i5 + (2 : Int32)).toNatClampNeg)) (i3 := t) h
    have k8 : gK μ1 (x + 120) = 8 := by
      have e9 := e2
      unfold F_X9_plugSelector at e9
      exact (ba_o e9).1
    refine ⟨(k, μ1), e1, fun kp => ?_⟩
    refine ⟨(kp.l hl ▸ hi.1), (kp.l hl ▸ hi.2.1), (kp.l hl ▸ hi.2.2.1), ?_⟩
    refine ht μ1 kp (fun t => B_L_law_1549 Z k28 x (x + 120) (x + 132) (x + 133) i5 k t (gI μ1 1 (i5 + (2 : Int32)).toNatClampNeg) (gI μ1 1 (i5 + (1 : Int32)).toNatClampNeg) (x + 120) μ1) ?_
    show B_L_law_1549 Z k28 x (x + 120) (x + 132) (x + 133) i5 k t (gI μ1 1 (i5 + (2 : Int32)).toNatClampNeg) (gI μ1 1 (i5 + (1 : Int32)).toNatClampNeg) (x + 120) μ1
    unfold B_L_law_1549
    refine ⟨k8, ⟨(b, μ2), (by rw [kp.1]; exact e2), fun kp2 => ⟨e5.sr.k0, ⟨_, x9_thr e5.sr, ?_⟩⟩⟩⟩
    exact tl3 e3 (fun q => ⟨e5.ko, (e5.lo.symm ▸ e01), if_c (cmp0 (e4 q)) (hk _ ⟨⟨B, e6⟩, kp2.i (kp.i hs), kp2.l (kp.l hl)⟩)⟩) (hk _ ⟨⟨B, e6⟩, kp2.i (kp.i hs), kp2.l (kp.l hl)⟩)
  refine ⟨(hl ▸ hi.1), (hl ▸ hi.2.1), (hl ▸ hi.2.2.1), ?_⟩
  by_cases h3 : gI μ 1 (i5 + (3 : Int32)).toNatClampNeg = 0
  · exact if_c h3 (key 0 fun ν kp P hP => if_c (by rw [kp.1]; exact h3) hP)
  · exact if_n h3 (key 1 fun ν kp P hP => if_n (by rw [kp.1]; exact h3) hP)
theorem lc_1697 (h : INV μ x A) (hl : gL μ 1 = LL) (hs : gI μ 1 = XS) (hk : HK k28 x XS LL i5) : B_L_law_1697 Z k28 x (x + 120) (x + 132) (x + 133) i5 μ := by
  unfold B_L_law_1697
  obtain ⟨μ1, μ2, e1, e2, B, e6⟩ := lw_reset h
  have k8 : gK μ1 (x + 120) = 8 := by
    have e9 := e2
    unfold F_X9_reset at e9
    exact (ba_o e9).1
  exact ⟨h.is.kx, ⟨μ1, e1, fun kp => ⟨k8, ⟨μ2, e2, fun kp2 => hk _ ⟨⟨B, e6⟩, kp2.i (kp.i hs), kp2.l (kp.l hl)⟩⟩⟩⟩⟩
theorem lc_2475 (h : INV μ x A) (hl : gL μ 1 = LL) (hs : gI μ 1 = XS) (hi : HI i5 LL) (hk : HK k28 x XS LL i5) : B_L_law_2475 Z k28 x (x + 120) (x + 132) (x + 133) i5 μ := by
  unfold B_L_law_2475
  obtain ⟨k, μ1, μ2, e1, e2, e3, e5, B, e6⟩ := ls_save (i1 := (gI μ 1 (i5 + (1 : Int32)).toNatClampNeg)) h
  have k8 : gK μ1 (x + 120) = 8 := by
    have e9 := e2
    unfold F_X9_save at e9
    obtain ⟨v, -, e⟩ := bd_o e9
    exact (ba_o e).1
  refine ⟨(hl ▸ hi.1), ⟨(k, μ1), e1, fun kp => ?_⟩⟩
  exact ⟨(kp.l hl ▸ hi.1), k8, ⟨μ2, (by rw [kp.1]; exact e2), fun kp2 => ⟨e5.sr.k0, ⟨_, x9_thr e5.sr, if_c e3 (hk _ ⟨⟨B, e6⟩, kp2.i (kp.i hs), kp2.l (kp.l hl)⟩)⟩⟩⟩⟩
theorem INV.stD {a j : Nat} {v : UInt64} (h : INV μ x A) : INV (stD μ a j v) x A := h
theorem INV.thr {v : Int32} (h : INV μ x A) : INV (stI μ (x + 120) 5 v) x A := h.step (B := A) Fx.same h.mo (RK.thr (v := v)) (by rw [q_iI, q_ua (by omega)]; exact h.2.2.1)
theorem IS.ko2 {μ : Mem} {x : Nat} (h : IS μ x) : gK μ (x + 133) = 104 := h.2.2.2.2.2.2.2.2.2.2.2.2.2.2.2.1
theorem IS.lo2 {μ : Mem} {x : Nat} (h : IS μ x) : gL μ (x + 133) = 1 := h.2.2.2.2.2.2.2.2.2.2.2.2.2.2.2.2.1
theorem dthr {v : Int32} : gD (stI μ (x + 120) 5 v) (x + 133) 0 = gD μ (x + 133) 0 := rfl
theorem dst {v : UInt64} : gD (stD μ (x + 133) 0 v) (x + 133) 0 = v := by
  show up2 (gD μ) (x + 133) 0 v (x + 133) 0 = v
  rw [q_us]
/-- the comparison of two doubles that are alike -/
theorem dsame {P R1 R2 : Prop} {a b : UInt64} {c : Int32} (h : DD a = DD b) (hc : DD b = .nan → c = -1) (hP : P) : if Op.cmpValue (FP.dcmp a b) .l = 0 then P else (if Op.cmpValue (FP.dcmp a a) .l = 0 then R1 else (if c = 0 then R2 else P)) := by
  by_cases hn : DD b = .nan
  · have e1 : FP.dcmp a b = none := by rw [dcmp_e, h, hn]; rfl
    have e2 : FP.dcmp a a = none := by rw [dcmp_e, h, hn]; rfl
    rw [e1, e2, hc hn]
    exact if_n (by decide) (if_n (by decide) (if_n (by decide) hP))
  · have e1 : FP.dcmp a b = some .eq := by rw [dcmp_e, h]; exact order_same hn
    rw [e1]
    exact if_c rfl hP
theorem lc_862 (h : INV μ x A) (hl : gL μ 1 = LL) (hs : gI μ 1 = XS) (hi : HI i5 LL) (hk : HK k28 x XS LL i5) : B_L_law_862 Z k28 x (x + 120) (x + 132) (x + 133) i5 μ := by
  have w := h.w
  have c0 := w.c0.2
  unfold B_L_law_862
  refine ⟨(hl ▸ hi.1), ?_⟩
  by_cases hr : IR (gI μ 1 (i5 + (1 : Int32)).toNatClampNeg) (nt (A 0))
  · obtain ⟨f, hf, ef⟩ := hr.ex (by omega)
    rw [ef]
    refine lm_mean h hf h.is.ko2 h.is.lo2 (fun d hd => dzr_v fun kp => ?_)
    have h1 : INV (stD μ (x + 133) 0 d) x A := h.stD
    refine ⟨(kp.l hl ▸ hi.1), h1.is.sr.k0, ?_⟩
    rw [show gI (stD μ (x + 133) 0 d) 1 = gI μ 1 from rfl, ef]
    refine r9_mean h1.ra w hf (fun b hb => dzr_v fun kp2 => ?_)
    have h2 := h1.thr (v := nI 0)
    refine ⟨h2.is.sr.k0, ⟨_, x9_thr h2.is.sr, ?_⟩⟩
    have fin : B_L_law_936 Z k28 x (x + 120) (x + 132) (x + 133) i5 (stI (stD μ (x + 133) 0 d) (x + 120) 5 (nI 0)) := hk _ ⟨⟨A, h2⟩, kp2.i (kp.i hs), kp2.l (kp.l hl)⟩
    refine tl3 (by rw [q_iI, q_us]) (fun _ => ⟨h2.is.ko2, (h2.is.lo2.symm ▸ e01), ?_⟩) fin
    have eD : gD (stI (stD μ (x + 133) 0 d) (x + 120) 5 (nI 0)) (x + 133) (0 : Int32).toNatClampNeg = d := by rw [cz0, dthr, dst]
    rw [eD]
    refine dsame (hd.trans hb.symm) (fun hn => ?_) fin
    rw [dcmp_e, hn]; rfl
  · refine lm_meanN h hr (dzr_v fun kp => ?_)
    refine ⟨(hl ▸ hi.1), h.is.sr.k0, ?_⟩
    refine r9_meanN h.ra w hr (fun b => dzr_v fun kp2 => ?_)
    have h2 := h.thr (v := nI 1)
    refine ⟨h2.is.sr.k0, ⟨_, x9_thr h2.is.sr, ?_⟩⟩
    have fin : B_L_law_936 Z k28 x (x + 120) (x + 132) (x + 133) i5 (stI μ (x + 120) 5 (nI 1)) := hk _ ⟨⟨A, h2⟩, kp2.i hs, kp2.l hl⟩
    exact tl3 (by rw [q_iI, q_us]) (fun q => absurd q (by decide +kernel)) fin
theorem lc_939 (h : INV μ x A) (hl : gL μ 1 = LL) (hs : gI μ 1 = XS) (hi : HI i5 LL) (hk : HK k28 x XS LL i5) : B_L_law_939 Z k28 x (x + 120) (x + 132) (x + 133) i5 μ := by
  have w := h.w
  have c0 := w.c0.2
  unfold B_L_law_939
  refine ⟨(hl ▸ hi.1), (hl ▸ hi.2.1), fun z1 a1 => ?_⟩
  have d1 := al32 a1
  by_cases hr : IR (gI μ 1 (i5 + (1 : Int32)).toNatClampNeg) (nt (A 0))
  · obtain ⟨f, hf, ef⟩ := hr.ex (by omega)
    by_cases hb : badW z1
    · rw [ef]
      refine lm_mvW h (ef ▸ hr) hb (dzr_v fun kp => ?_)
      refine ⟨(hl ▸ hi.1), (hl ▸ hi.2.1), fun z2 a2 => ⟨h.is.sr.k0, ?_⟩⟩
      have d2 := al32 a2
      refine r9_mvW h.ra w hr ((badW_c (d1.trans d2.symm)) ▸ hb) (fun b => dzr_v fun kp2 => ?_)
      have h2 := h.thr (v := nI 2)
      refine ⟨h2.is.sr.k0, ⟨_, x9_thr h2.is.sr, ?_⟩⟩
      have fin : B_L_law_1034 Z k28 x (x + 120) (x + 132) (x + 133) i5 (stI μ (x + 120) 5 (nI 2)) := hk _ ⟨⟨A, h2⟩, kp2.i hs, kp2.l hl⟩
      exact tl3 (by rw [q_iI, q_us]) (fun q => absurd q (by decide +kernel)) fin
    · rw [ef]
      refine lm_mv h hf d1 hb h.is.ko2 h.is.lo2 (fun d r hr1 hd => dzr_v fun kp => ?_)
      have h1 : INV (stD μ (x + 133) 0 d) x A := h.stD
      refine ⟨(kp.l hl ▸ hi.1), (kp.l hl ▸ hi.2.1), fun z2 a2 => ⟨h1.is.sr.k0, ?_⟩⟩
      have d2 : DF z2 = _ := al32 a2
      rw [show gI (stD μ (x + 133) 0 d) 1 = gI μ 1 from rfl] at d2 ⊢
      rw [ef]
      refine r9_mv h1.ra w hf d2 (fun e => hb ((badW_c (d1.trans d2.symm)) ▸ e)) (fun b hb1 => dzr_v fun kp2 => ?_)
      have h2 := h1.thr (v := nI 0)
      refine ⟨h2.is.sr.k0, ⟨_, x9_thr h2.is.sr, ?_⟩⟩
      have fin : B_L_law_1034 Z k28 x (x + 120) (x + 132) (x + 133) i5 (stI (stD μ (x + 133) 0 d) (x + 120) 5 (nI 0)) := hk _ ⟨⟨A, h2⟩, kp2.i (kp.i hs), kp2.l (kp.l hl)⟩
      refine tl3 (by rw [q_iI, q_us]) (fun _ => ⟨h2.is.ko2, (h2.is.lo2.symm ▸ e01), fun z3 a3 => ?_⟩) fin
      have eD : gD (stI (stD μ (x + 133) 0 d) (x + 120) 5 (nI 0)) (x + 133) (0 : Int32).toNatClampNeg = d := by rw [cz0, dthr, dst]
      rw [eD]
      have d3 := al64 a3
      refine dsame ((hd.trans (f2d_c (hr1.trans hb1.symm))).trans d3.symm) (fun hn => ?_) fin
      have hbn : DF b = .nan := Decidable.of_not_not fun e => f2d_num e (d3.symm.trans hn)
      rw [fcmp_e, hbn]; rfl
  · refine lm_mvN h hr (dzr_v fun kp => ?_)
    refine ⟨(hl ▸ hi.1), (hl ▸ hi.2.1), fun z2 a2 => ⟨h.is.sr.k0, ?_⟩⟩
    refine r9_mvN h.ra w hr (fun b => dzr_v fun kp2 => ?_)
    have h2 := h.thr (v := nI 1)
    refine ⟨h2.is.sr.k0, ⟨_, x9_thr h2.is.sr, ?_⟩⟩
    have fin : B_L_law_1034 Z k28 x (x + 120) (x + 132) (x + 133) i5 (stI μ (x + 120) 5 (nI 1)) := hk _ ⟨⟨A, h2⟩, kp2.i hs, kp2.l hl⟩
    exact tl3 (by rw [q_iI, q_us]) (fun q => absurd q (by decide +kernel)) fin
end CASE

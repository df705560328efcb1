/-! THE START'S WORLD: the classes, the arrays' classes, the constants -/
section START
variable {args : Array Value} {s : State}
theorem ex_ref {t : Term} {C : String} (h : (Cond.exactly t C).before args s = true) : ∃ a, t.eval args s none [] s = some (.ref a) := by
  obtain ⟨a, c, cell, k, h1, -⟩ := Cond.exactly_spec (args := args) (first := s) (o := none) (s := s) (idx := []) (t := t) (cls := C) h
  exact ⟨a, h1⟩
theorem fchoose {P : Nat → Nat → Prop} {n : Nat} (h : ∀ i, i < n → ∃ a, P i a) : ∃ f : Nat → Nat, ∀ i, i < n → P i (f i) := by
  refine ⟨fun i => if hi : i < n then (h i hi).choose else 0, fun i hi => ?_⟩
  simp only [dif_pos hi]
  exact (h i hi).choose_spec
theorem arr_int (h : (Cond.arrayClass .int).before args s = true) : ∃ c, ArrOfT s c .int ∧ va_RA s c .int := by
  obtain ⟨c, k, comp, h1, h2, h3⟩ := Cond.arrayClass_spec (args := args) (first := s) (o := none) (s := s) (idx := []) h
  exact ⟨c, fun n z => ⟨(fun k h => by cases h), k, h2, comp, h3⟩, h1⟩
theorem arr_long (h : (Cond.arrayClass .long).before args s = true) : ∃ c, ArrOfT s c .long ∧ va_RA s c .long := by
  obtain ⟨c, k, comp, h1, h2, h3⟩ := Cond.arrayClass_spec (args := args) (first := s) (o := none) (s := s) (idx := []) h
  exact ⟨c, fun n z => ⟨(fun k h => by cases h), k, h2, comp, h3⟩, h1⟩
theorem arr_boolean (h : (Cond.arrayClass .boolean).before args s = true) : ∃ c, ArrOfT s c .boolean ∧ va_RA s c .boolean := by
  obtain ⟨c, k, comp, h1, h2, h3⟩ := Cond.arrayClass_spec (args := args) (first := s) (o := none) (s := s) (idx := []) h
  exact ⟨c, fun n z => ⟨(fun k h => by cases h), k, h2, comp, h3⟩, h1⟩
theorem arr_double (h : (Cond.arrayClass .double).before args s = true) : ∃ c, ArrOfT s c .double ∧ va_RA s c .double := by
  obtain ⟨c, k, comp, h1, h2, h3⟩ := Cond.arrayClass_spec (args := args) (first := s) (o := none) (s := s) (idx := []) h
  exact ⟨c, fun n z => ⟨(fun k h => by cases h), k, h2, comp, h3⟩, h1⟩
theorem arr_mach (h : (Cond.arrayOver (.object RX3)).before args s = true) : ∃ c, ArrOfT s c (.object RX3) ∧ va_RA s c (.object RX3) := by
  obtain ⟨comp, c, k, f1, f0, f2, f3, f4⟩ := Cond.arrayOver_spec (args := args) (first := s) (o := none) (s := s) (idx := []) h
  exact ⟨c, fun n z => ⟨(fun k h => by cases h), k, f2, comp, f3⟩, k, comp, f2, f3, f1, f4⟩
theorem cls_K (hts : ∀ w ∈ ab_WA, w.before args s = true) : ∃ D : va_G, ∀ (c : Nat) (q : vw_C), ab_cl[c]? = some q → u_Kn s q.1 q.2.1 q.2.2 (D.1 c) (D.2 c) := by
  obtain ⟨c0, i0, h0⟩ := u_known hts hin_0 (hts _ w_166)
  obtain ⟨c1, i1, h1⟩ := u_known hts hin_1 (hts _ w_242)
  obtain ⟨c2, i2, h2⟩ := u_known hts hin_2 (hts _ w_314)
  obtain ⟨c3, i3, h3⟩ := u_known hts hin_3 (hts _ w_324)
  obtain ⟨c4, i4, h4⟩ := u_known hts hin_4 (hts _ w_160)
  obtain ⟨c5, i5, h5⟩ := u_known hts hin_5 (hts _ w_172)
  obtain ⟨c6, i6, h6⟩ := u_known hts hin_6 (hts _ w_152)
  obtain ⟨c7, i7, h7⟩ := u_known hts hin_7 (hts _ w_1532)
  refine ⟨(fun k => match k with | 0 => c0 | 1 => c1 | 2 => c2 | 3 => c3 | 4 => c4 | 5 => c5 | 6 => c6 | _ => c7, fun k => match k with | 0 => i0 | 1 => i1 | 2 => i2 | 3 => i3 | 4 => i4 | 5 => i5 | 6 => i6 | _ => i7), fun c q hq => ?_⟩
  match c, hq with
  | 0, hq => cases hq; exact h0
  | 1, hq => cases hq; exact h1
  | 2, hq => cases hq; exact h2
  | 3, hq => cases hq; exact h3
  | 4, hq => cases hq; exact h4
  | 5, hq => cases hq; exact h5
  | 6, hq => cases hq; exact h6
  | 7, hq => cases hq; exact h7
  | k + 8, hq => simp at hq
def cadf (b tA tS k0 k1 fm : Nat) (wd : Nat → Nat) : Nat → Nat := fun r => if r = 1 then b else if r < 18 then wd (r - 2) else if r = 18 then tA else if r = 19 then tS else if r = 20 then k0 else if r = 21 then k1 else fm
theorem cadf_w {b tA tS k0 k1 fm : Nat} {wd : Nat → Nat} {i : Nat} (hi : i < 16) : cadf b tA tS k0 k1 fm wd (2 + i) = wd i := by
  unfold cadf
  rw [if_neg (by omega), if_pos (by omega), show 2 + i - 2 = i from by omega]
theorem va_T.congr {ty : FieldType} {t N : Nat} {f g : Nat → Value} {A : Nat → Prop} {U : State} {H : Heap} (h : va_T ty t N f A U H) (e : ∀ j, j < N → f j = g j) : va_T ty t N g A U H := by
  obtain ⟨cell, h1, h2, h3, h4, h5, h6, h7⟩ := h
  exact ⟨cell, h1, h2, h3, h4, h5, fun j hj => by rw [← e j hj]; exact h6 j hj, h7⟩
theorem start_cs {b L : Nat} {xs : Nat → Int32} (hgv : (Cond.and given_1 narrow_1).before #[Value.ref b] s = true) (hts : ∀ w ∈ lw_tbl, w.before #[Value.ref b] s = true) (hX : va_X b L xs s s.heap) (hbl : b < s.heap.size) : ∃ cx : CX, cx.L = L ∧ cx.xs = xs ∧ cx.Z = s.heap.size ∧ cx.cad 1 = b ∧ Cs cx s ∧ va_K cx.D ab_cl (ab_tys cx) s := by
  have hA : ∀ a : Nat, a < s.heap.size → ¬ (fun q : Nat => s.heap.size ≤ q) a := fun a h => Nat.not_le.mpr h
  have tb : ∀ {w : Cond} (i : Nat), lw_tbl[i]? = some w → w.before #[Value.ref b] s = true := fun i h => hts _ (List.mem_of_getElem? h)
  have hWA : ∀ w ∈ ab_WA, w.before #[Value.ref b] s = true := fun w hw => hts w (List.mem_filter.mp hw).1
  obtain ⟨wd, hwd⟩ := fchoose (n := 16) (P := fun i a => (wz i).eval #[Value.ref b] s none [] s = some (.ref a)) (fun i hi => ex_ref (nar_at hgv _ (nr_ex i hi)))
  obtain ⟨tA, hA1, hA2⟩ := va_Tof (A := fun q : Nat => s.heap.size ≤ q) (tm := tALL) (ty := .object RX7) (N := 16) (f := fun j => .ref (wd j)) (by decide) (nar_at hgv _ nr_1) (va_eqt (nar_at hgv _ nr_2)) (fun j hj => va_eqv (nar_at hgv _ (nr_al j hj)) (hwd j hj)) hA
  obtain ⟨tS, hS1, hS2⟩ := va_Tof (A := fun q : Nat => s.heap.size ≤ q) (tm := tSW) (ty := .int) (N := 16) (f := fun j => .int (wd_sw j)) (by decide) (nar_at hgv _ nr_3) (va_eqt (nar_at hgv _ nr_4)) (fun j hj => va_eqt (nar_at hgv _ (nr_sw j hj))) hA
  obtain ⟨k0, hk0⟩ := ex_ref (nar_at hgv _ nr_5)
  obtain ⟨k1, hk1, hk2⟩ := va_Tof (A := fun q : Nat => s.heap.size ≤ q) (tm := tKV) (ty := .byte) (N := 97) (f := fun j => .int (kw_b j)) (by decide) (nar_at hgv _ nr_7) (va_eqt (nar_at hgv _ nr_8)) (fun j hj => va_eqt (nar_at hgv _ (nr_kb j hj))) hA
  have hF : ∃ fm : Nat, va_Z "jdk/internal/util/Preconditions" "SIOOBE_FORMATTER" "Ljava/util/function/BiFunction;" .null (fun q : Nat => s.heap.size ≤ q) s s.heap ∨ va_Z "jdk/internal/util/Preconditions" "SIOOBE_FORMATTER" "Ljava/util/function/BiFunction;" (.ref fm) (fun q : Nat => s.heap.size ≤ q) s s.heap := by
    rcases va_Zqof (tb _ lt_4) (tb _ lt_10) (nar_at hgv _ nr_10) hA with h | ⟨t, h⟩
    · exact ⟨0, Or.inl h⟩
    · exact ⟨t, Or.inr h⟩
  obtain ⟨fm, hF⟩ := hF
  obtain ⟨D, hD⟩ := cls_K hWA
  obtain ⟨a0, b0, d0⟩ := arr_int (hWA _ w_189)
  obtain ⟨a1, b1, d1⟩ := arr_long (hWA _ w_190)
  obtain ⟨a2, b2, d2⟩ := arr_boolean (hWA _ w_340)
  obtain ⟨a3, b3, d3⟩ := arr_double (hWA _ w_2141)
  obtain ⟨a4, b4, d4⟩ := arr_mach (tb _ lt_12)
  have ew : ∀ i, i < 16 → cadf b tA tS k0 k1 fm wd (2 + i) = wd i := fun i hi => cadf_w hi
  refine ⟨(D, (fun k => match k with | 0 => a0 | 1 => a1 | 2 => a2 | 3 => a3 | _ => a4), s.heap.size, cadf b tA tS k0 k1 fm wd, L, xs), rfl, rfl, rfl, rfl, ⟨Nat.le_refl _, va_AO.of (tb _ lt_12), fun w hw => va_Nw.of (good2_tab (List.mem_filter.mp hw).2) (hts w (List.mem_filter.mp hw).1), vx_Zqof (tb _ lt_6) (tb _ lt_11) (nar_at hgv _ nr_11) hA, vx_Zqof (tb _ lt_5) (tb _ lt_11) (nar_at hgv _ nr_12) hA, ?_, ?_, ?_, ?_⟩, hD, ?_⟩
  · intro q hq
    obtain ⟨i, hi, e0⟩ := List.mem_iff_getElem.mp hq
    have hi' : i < 20 := hi
    have e : q = msg i := by
      unfold msg
      rw [List.getD_eq_getElem?_getD, List.getElem?_eq_getElem hi, ← e0]
      rfl
    subst e
    obtain ⟨a, ha⟩ := ex_ref (nar_at hgv _ (nr_me i hi'))
    exact ⟨a, vk_R.of (tb _ (lt_ms i hi')) ha⟩
  · intro q hq
    simp only [ab_nc, List.mem_cons, List.not_mem_nil, or_false] at hq
    rcases hq with rfl | rfl | rfl
    · exact va_Nc.of (nar_at hgv _ nr_n0)
    · exact va_Nc.of (nar_at hgv _ nr_n1)
    · exact va_Nc.of (nar_at hgv _ nr_n2)
  · refine ⟨hX, hA b hbl, fun i hi => ?_, fun i hi => ?_, fun i hi => ?_, fun i hi => ?_, fun i j hi hj e => ?_, va_Zof (tb _ lt_1) (tb _ lt_7) hA1 hA, hA2.congr (fun j hj => congrArg Value.ref (ew j hj).symm), va_Zof (tb _ lt_2) (tb _ lt_8) hS1 hA, hS2, va_Oof (nar_at hgv _ nr_5) hk0 hA, vk_OFof hk0 (va_eqt (nar_at hgv _ nr_6)) hA, vk_OFof hk0 hk1 hA, hk2, va_Zof (tb _ lt_3) (tb _ lt_9) (va_eqt (nar_at hgv _ nr_9)) hA, hF⟩
    · show va_Z _ _ _ (.ref (cadf b tA tS k0 k1 fm wd (2 + i))) _ _ _
      rw [ew i hi]; exact va_Zof (tb _ (lt_ls i hi)) (tb _ lt_7) (hwd i hi) hA
    · show va_O _ (cadf b tA tS k0 k1 fm wd (2 + i)) _ _ _
      rw [ew i hi]; exact va_Oof (nar_at hgv _ (nr_ex i hi)) (hwd i hi) hA
    · show va_OF _ _ _ _ (cadf b tA tS k0 k1 fm wd (2 + i)) _ _ _
      rw [ew i hi]; exact vk_OFof (hwd i hi) (va_eqtl (nar_at hgv _ (nr_ke i hi))) hA
    · show va_OF _ _ _ _ (cadf b tA tS k0 k1 fm wd (2 + i)) _ _ _
      rw [ew i hi]; exact vk_OFof (hwd i hi) (va_eqt (nar_at hgv _ (nr_od i hi))) hA
    · have e2 : wd i = wd j := (ew i hi).symm.trans (Eq.trans e (ew j hj))
      have v1 := va_eqt (nar_at hgv _ (nr_od i hi))
      have v2 := va_eqt (nar_at hgv _ (nr_od j hj))
      rw [va_fe (hwd i hi)] at v1
      rw [va_fe (hwd j hj), ← e2, v1] at v2
      have v3 : nI i = nI j := Value.int.inj (Option.some.inj v2)
      have v4 := congrArg Int32.toInt v3
      rw [nI_toInt (by omega), nI_toInt (by omega)] at v4
      omega
  · exact vk_R.of (tb _ lt_13) hk0
  · intro k q hq
    match k, hq with
    | 0, hq => cases hq; exact ⟨b0, d0⟩
    | 1, hq => cases hq; exact ⟨b1, d1⟩
    | 2, hq => cases hq; exact ⟨b2, d2⟩
    | 3, hq => cases hq; exact ⟨b3, d3⟩
    | 4, hq => cases hq; exact ⟨b4, d4⟩
    | k + 5, hq => simp [ab_tys] at hq
/-- the first memory: constants alone -/
def mem0 (L : Nat) (xs : Nat → Int32) : Mem := (ab_ck, fun r => if r = 1 then L else 0, 23, fun _ _ => 0, fun r j => if r = 1 then xs j else 0, fun _ _ => 0, fun _ _ => 0)
theorem ck_own (r : Nat) : ¬ ab_own (ab_ck r) := by
  unfold ab_own ab_ck
  intro h
  repeat' split at h
  all_goals omega
theorem start_wd {cx : CX} (hK : va_K cx.D ab_cl (ab_tys cx) s) : Wd cx cx.cad (mem0 cx.L cx.xs) s s.heap := by
  refine ⟨hK, fun k q h => ?_, ⟨fun i j p q h => ?_, fun k q h => ?_⟩, Nat.le_refl _, fun r h => absurd h (ck_own r), fun r _ => ⟨rfl, rfl⟩, rfl, ?_, fun r j => by show 0 < 23; decide, fun r j h => ?_⟩
  · have : (ab_wl cx cx.cad (mem0 cx.L cx.xs)) = [] := rfl
    rw [this] at h; simp at h
  · have : (ab_wl cx cx.cad (mem0 cx.L cx.xs)) = [] := rfl
    rw [this] at h; simp at h
  · have : (ab_wl cx cx.cad (mem0 cx.L cx.xs)) = [] := rfl
    rw [this] at h; simp at h
  · funext j; rfl
  · exact absurd (Or.inr ⟨by have : ab_ck r = 103 := h; omega, by have : ab_ck r = 103 := h; omega⟩) (ck_own r)
end START

/-! LAYER 3: the class's reader: rows -/
theorem inj_ix {s i j i' j' : Nat} (h : s * i + j = s * i' + j') (hj : j < s) (hj' : j' < s) : i = i' ∧ j = j' := by
  rcases Nat.lt_trichotomy i i' with q | q | q
  · have := Nat.mul_le_mul_left s (show i + 1 ≤ i' from q); rw [Nat.mul_add, Nat.mul_one] at this; omega
  · subst q; exact ⟨rfl, by omega⟩
  · have := Nat.mul_le_mul_left s (show i' + 1 ≤ i from q); rw [Nat.mul_add, Nat.mul_one] at this; omega
theorem ix_lt {s i j l : Nat} (hi : i < l) (hj : j < s) : s * i + j < s * l := by
  have := Nat.mul_le_mul_left s (show i + 1 ≤ l from hi); rw [Nat.mul_add, Nat.mul_one] at this; omega
section ROW
variable {μ μ' μ1 : Mem} {d n lo p ls : Nat} {b : Nat → Nat} {A : SA} {nc : Nat → Nat} {wn : Nat → Nat → List Nat}
theorem x6_putA {t q : Nat} {i v : Int32} (h : ST μ t) (hc : isN (gI μ t 2) 0 12) (hq : q < 5) : ∃ μ', F_X6_put t i (nI q) v μ = some μ' ∧ Fx (fun a => a = t + 1) μ μ' := by
  obtain ⟨c, hc, -, hb⟩ := hc
  by_cases h0 : i < nI 0
  · exact ⟨μ, x6_putN h h0, Fx.same⟩
  · obtain ⟨k, hk, rfl⟩ := nI_of h0
    by_cases h1 : k < c
    · exact ⟨_, x6_put h hc hb h1 hq, Fx.stI rfl⟩
    · refine ⟨μ, ?_, Fx.same⟩
      obtain ⟨h1', h2, h3, h4⟩ := h
      have hn : ¬ nI k < nI c := by rw [nI_ltI hk (by omega)]; exact h1
      have hle : nI c ≤ nI k := by rw [nI_leI (by omega) hk]; omega
      simp (disch := first | assumption | omega) only [q_bl, q_baT, q_bi, q_ba, q_pr, q_ob, q_iT, q_iN, q_it, q_if, q_of, nI_add, pk_mul, pk_sub, nI_eq, nI_clamp, nI_lt0, nI_eqm, m1_eq, true_or, or_true, not_false_eq_true, m1_lt, m1_nlt, m1_le, m1_nle, b01, b011, q_em, q_m1, n_0, n_1, n_2, n_3, n_4, n_5, n_6, n_7, n_8, n_9, n_10, n_11, n_12, n_14, n_15, n_16, n_20, n_24, n_25, n_32, n_36, n_40, n_41, n_42, n_43, n_45, n_46, n_48, n_57, n_59, n_60, n_73, n_76, n_97, n_99, n_100, n_106, n_109, n_120, n_122, n_136, n_160, n_176, n_200, n_255, n_800, n_1000, n_1001, n_1002, n_1003, n_1006, n_1012, n_1018, n_1019, n_1020, n_1100, n_1140, n_4800, n_4920, n_5940, n_6740, n_20220, F_X6_put, h0, h1', hc, hle]
theorem CB.st {k : Nat} (hB : CB μ d b n) (hk : k < 8) : ST μ (d + 6 + 2 * k) := by
  have := (hB.sb.2.1 k hk).2
  rw [show d + 5 + 1 + 2 * k = d + 6 + 2 * k from by omega] at this
  exact this
theorem CB.tab {k : Nat} (hB : CB μ d b n) (hk : k < 8) (f : Fx (fun a => a = d + 6 + 2 * k ∨ a = d + 6 + 2 * k + 1) μ μ') (e1 : gI μ' (d + 6 + 2 * k) 1 = gI μ (d + 6 + 2 * k) 1) (e2 : isN (gI μ' (d + 6 + 2 * k) 2) 0 12) : CB μ' d b n := by
  obtain ⟨h1, h2, h3, h4, h5, h6⟩ := hB
  refine ⟨h1.fx f, ?_, h3, fun j hj => ?_, fun j hj => ?_, ?_⟩
  · rw [f.I (by omega)]; exact h2
  · rw [f.I (by omega)]; exact h4 j hj
  · by_cases hjk : j = k
    · subst hjk; exact ⟨e1.trans (h5 j hj).1, e2⟩
    · rw [f.I (by omega)]; exact h5 j hj
  · rw [f.I (by omega)]; exact h6
theorem frt {k : Nat} (hk : k < 8) (f : Fx (fun a => a = d + 6 + 2 * k ∨ a = d + 6 + 2 * k + 1) μ μ') : FR d μ μ' := ⟨f.mono (fun a ha => by omega), by rw [f.I (by omega)]⟩
theorem CE.fx {P : Nat → Prop} {e : Nat × Nat} (h : CE μ d n e) (f : Fx P μ μ') (hp : ¬ P d) : CE μ' d n e := by unfold CE; rw [f.I hp]; exact h
/-- a row begins -/
theorem gstart {k t : Nat} (hk : k < 8) (ht : t = d + 6 + 2 * k) (h : CR μ d b n lo (.inr (p, ls, A, nc, wn))) : ∃ row μ', F_X5_startStatement d t μ = some (row, μ') ∧ CR μ' d b n lo (g_start k (lms.getD k 0) (.inr (p, ls, A, nc, wn))) ∧ FR d μ μ' ∧ (nt (A k) < lms.getD k 0 → row = nI (nt (A k))) := by
  obtain ⟨hB, hG⟩ := h
  obtain ⟨o1, o2, o3, o4, o5, o6, o7⟩ := hG
  obtain ⟨t1, t2, t3, t4, t5, t6, t7⟩ := o7
  have st := hB.st hk
  have k0 := hB.kd
  obtain ⟨b1, b2⟩ := tb_d k hk
  obtain ⟨z1, z2, z3⟩ := t4.1 k hk
  have hc : gI μ t 2 = nI (nt (A k)) := by rw [ht, (t1 k hk).1]; exact z1
  have hl : gI μ t 1 = nI (lms.getD k 0) := by rw [ht]; exact (hB.2.2.2.2.1 k hk).1
  rw [← ht] at st
  have kt := st.1
  have eg : g_start k (lms.getD k 0) (.inr (p, ls, A, nc, wn)) = if lms.getD k 0 ≤ nt (A k) then .inl (5, ls) else .inr (p, ls, ua A k (nI (nt (A k) + 1)), nc, wn) := rfl
  rw [eg]
  clear eg
  by_cases hf : lms.getD k 0 ≤ nt (A k)
  · rw [if_pos hf]
    have e1 := x6_addRowF st hc hl (by omega) (by omega) hf
    have f2 : Fx (fun a => a = d) μ (stI (stI μ d 13 (nI 5)) d 14 (gI μ d 4)) := (Fx.stI (P := fun a => a = d) rfl).trans (Fx.stI rfl)
    refine ⟨-nI 1, stI (stI μ d 13 (nI 5)) d 14 (gI μ d 4), ?_, ⟨hB.dd f2 ?_, ?_, (show 1 ≤ 5 by decide), (show 5 ≤ 5 by decide), ?_, o6⟩, FR.dd f2 ?_, fun h => by omega⟩
    · have f1 := x5_fail (v := nI 5) k0 o1
      clear hB t1 t2 t3 t4 t5 t6 t7 f2
      simp (disch := first | assumption | omega) only [q_bl, q_baT, q_bi, q_ba, q_pr, q_ob, q_iT, q_iN, q_it, q_if, q_of, nI_add, pk_mul, pk_sub, nI_leI, nI_ltI, nI_eq, nI_clamp, nI_lt0, nI_eqm, m1_eq, true_or, or_true, not_false_eq_true, m1_lt, m1_nlt, m1_le, m1_nle, b01, b011, q_em, q_m1, n_0, n_1, n_2, n_3, n_4, n_5, n_6, n_7, n_8, n_9, n_10, n_11, n_12, n_14, n_15, n_16, n_20, n_24, n_25, n_32, n_36, n_40, n_41, n_42, n_43, n_45, n_46, n_48, n_57, n_59, n_60, n_73, n_76, n_97, n_99, n_100, n_106, n_109, n_120, n_122, n_136, n_160, n_176, n_200, n_255, n_800, n_1000, n_1001, n_1002, n_1003, n_1006, n_1012, n_1018, n_1019, n_1020, n_1100, n_1140, n_4800, n_4920, n_5940, n_6740, n_20220, F_X5_startStatement, kt, e1, k0, f1]
    · rw [q_iI, q_un (by omega), q_iI, q_un (by omega)]
    · rw [q_iI, q_un (by omega), q_iI, q_us]
    · rw [q_iI, q_us]; exact o5
    · rw [q_iI, q_un (by omega), q_iI, q_un (by omega)]
  · rw [if_neg hf]
    have e1 := x6_addRow st hc hl (by omega) (by omega)
    have hlm : lms.getD k 0 ≤ 12 := b1.2.2.2.2.1
    have f2 : Fx (fun a => a = d + 6 + 2 * k ∨ a = d + 6 + 2 * k + 1) μ (stF (stI μ t 2 (nI (nt (A k) + 1))) (t + 1) (nt (A k) * 5) ((nt (A k) + 1) * 5) (nI 0)) := (Fx.stI (Or.inl ht)).trans (Fx.stF (Or.inr (by omega)))
    have g1 : gI (stF (stI μ t 2 (nI (nt (A k) + 1))) (t + 1) (nt (A k) * 5) ((nt (A k) + 1) * 5) (nI 0)) (d + 6 + 2 * k) 1 = gI μ (d + 6 + 2 * k) 1 := by rw [q_iFo (by omega), q_iI, q_un (by omega)]
    have g2 : gI (stF (stI μ t 2 (nI (nt (A k) + 1))) (t + 1) (nt (A k) * 5) ((nt (A k) + 1) * 5) (nI 0)) (d + 6 + 2 * k) 2 = nI (nt (A k) + 1) := by rw [q_iFo (by omega), ht, q_iI, q_us]
    have g3 : ∀ i, gI (stF (stI μ t 2 (nI (nt (A k) + 1))) (t + 1) (nt (A k) * 5) ((nt (A k) + 1) * 5) (nI 0)) (d + 6 + 2 * k + 1) i = if nt (A k) * 5 ≤ i ∧ i < (nt (A k) + 1) * 5 then nI 0 else gI μ (d + 6 + 2 * k + 1) i := fun i => by
      rw [q_iF]
      by_cases hi : nt (A k) * 5 ≤ i ∧ i < (nt (A k) + 1) * 5
      · rw [if_pos ⟨by omega, hi⟩, if_pos hi]
      · rw [if_neg (fun e => hi e.2), if_neg hi, q_iI, q_ua (by omega)]
    have hnt : nt (nI (nt (A k) + 1)) = nt (A k) + 1 := nt_nI (by omega)
    have hA : ∀ i, ¬ i = k → ua A k (nI (nt (A k) + 1)) i = A i := fun i hi => ua_n hi
    have hAk : ua A k (nI (nt (A k) + 1)) k = nI (nt (A k) + 1) := ua_s _ _ _
    generalize hμ : stF (stI μ t 2 (nI (nt (A k) + 1))) (t + 1) (nt (A k) * 5) ((nt (A k) + 1) * 5) (nI 0) = μ2 at *
    generalize hA2 : ua A k (nI (nt (A k) + 1)) = A2 at *
    have e13 : gI μ2 d = gI μ d := f2.I (by omega)
    refine ⟨nI (nt (A k)), μ2, ?_, ⟨hB.tab hk f2 g1 ⟨nt (A k) + 1, g2, by omega, by omega⟩, by rw [e13]; exact o1, by rw [e13]; exact o2, o3, o4, by rw [e13]; exact o5, o6, fun q hq => ?_, fun l l1 l2 => ?_, ?_, ⟨fun q hq => ?_, ?_, ?_⟩, ?_, t6, fun u hu => ?_⟩, frt hk f2, fun _ => rfl⟩
    · have hne : ¬ nI (nt (A k)) = -nI 1 := by rw [nI_eqm (by omega)]; exact id
      clear hB t1 t2 t3 t4 t5 t6 t7 f2 g1 g2 g3 hA hAk
      simp (disch := first | assumption | omega) only [q_bl, q_baT, q_bi, q_ba, q_pr, q_ob, q_iT, q_iN, q_it, q_if, q_of, nI_add, pk_mul, pk_sub, nI_leI, nI_ltI, nI_eq, nI_clamp, nI_lt0, nI_eqm, m1_eq, true_or, or_true, not_false_eq_true, m1_lt, m1_nlt, m1_le, m1_nle, b01, b011, q_em, q_m1, n_0, n_1, n_2, n_3, n_4, n_5, n_6, n_7, n_8, n_9, n_10, n_11, n_12, n_14, n_15, n_16, n_20, n_24, n_25, n_32, n_36, n_40, n_41, n_42, n_43, n_45, n_46, n_48, n_57, n_59, n_60, n_73, n_76, n_97, n_99, n_100, n_106, n_109, n_120, n_122, n_136, n_160, n_176, n_200, n_255, n_800, n_1000, n_1001, n_1002, n_1003, n_1006, n_1012, n_1018, n_1019, n_1020, n_1100, n_1140, n_4800, n_4920, n_5940, n_6740, n_20220, F_X5_startStatement, kt, e1, hne]
    · by_cases hqk : q = k
      · subst hqk
        refine ⟨g2.trans hAk.symm, fun i j hi hj => ?_⟩
        rw [hAk, hnt] at hi
        rw [g3, hA _ (by omega)]
        by_cases hic : i = nt (A q)
        · subst hic
          rw [if_pos (by omega), z3 (nt (A q)) j (Nat.le_refl _) (by omega) hj]
        · rw [if_neg (by omega)]
          exact (t1 q hk).2 i j (by omega) hj
      · obtain ⟨a1, a2⟩ := t1 q hq
        refine ⟨?_, fun i j hi hj => ?_⟩
        · rw [f2.I (by omega), hA q hqk]; exact a1
        · rw [hA q hqk] at hi
          have := (tb_d q hq).1.1
          rw [f2.I (by omega), hA _ (by omega)]; exact a2 i j hi hj
    · rw [f2.I (by omega), hA _ (by omega)]; exact t2 l l1 l2
    · obtain ⟨a1, a2⟩ := t3
      refine ⟨by rw [f2.I (by omega), hA _ (by omega)]; exact a1, fun i j hi j1 j2 => ?_⟩
      rw [hA _ (by omega)] at hi
      rw [f2.I (by omega), hA _ (by omega)]; exact a2 i j hi j1 j2
    · by_cases hqk : q = k
      · subst hqk
        rw [hAk, hnt]
        refine ⟨rfl, by omega, fun i j hi hi2 hj => ?_⟩
        rw [hA _ (by omega)]; exact z3 i j (by omega) hi2 hj
      · obtain ⟨a1, a2, a3⟩ := t4.1 q hq
        rw [hA q hqk]
        refine ⟨a1, a2, fun i j hi hi2 hj => ?_⟩
        have := (tb_d q hq).1.1
        rw [hA _ (by omega)]; exact a3 i j hi hi2 hj
    · rw [hA 8 (by omega)]; exact t4.2.1
    · rw [hA 8 (by omega)]; exact t4.2.2
    · obtain ⟨a1, a2, a3, a4, a5, a6⟩ := t5
      refine ⟨by rw [e13]; exact a1, a2, a3, a4, fun j hj => ?_, fun u r hu hr => ?_⟩
      · rw [f2.J (by omega), f2.I (by omega), f2.I (by omega)]; exact a5 j hj
      · rw [f2.J (by omega)]; exact a6 u r hu hr
    · by_cases huk : u = k
      · subst huk; rw [hAk, hnt]; have := t7 u hu; omega
      · rw [hA u huk]; exact t7 u hu
/-- a cell of the row is put -/
theorem gput {k t q c : Nat} {row v : Int32} {g : GST} (hk : k < 8) (ht : t = d + 6 + 2 * k) (hq : q < tS k) (h : CR μ d b n lo g) (hr : ∀ p ls A nc wn, g = .inr (p, ls, A, nc, wn) → row = nI c ∧ c < nt (A k)) : ∃ μ', F_X6_put t row (nI q) v μ = some μ' ∧ CR μ' d b n lo (g_put (tb k + tS k * c + q) v g) ∧ FR d μ μ' := by
  obtain ⟨hB, hG⟩ := h
  have st := hB.st hk
  obtain ⟨b1, b2⟩ := tb_d k hk
  match g, hG, hr with
  | .inl e, hG, _ =>
    obtain ⟨μ', e1, f1⟩ := x6_putA (i := row) (v := v) (q := q) st (hB.2.2.2.2.1 k hk).2 (by omega)
    have f2 : Fx (fun a => a = d + 6 + 2 * k ∨ a = d + 6 + 2 * k + 1) μ μ' := f1.mono (fun a ha => Or.inr ha)
    exact ⟨μ', by rw [ht]; exact e1, ⟨hB.tab hk f2 (by rw [f1.I (by omega)]) (by rw [f1.I (by omega)]; exact (hB.2.2.2.2.1 k hk).2), CE.fx hG f2 (by omega)⟩, frt hk f2⟩
  | .inr (p, ls, A, nc, wn), hG, hr =>
    obtain ⟨rfl, hlt⟩ := hr p ls A nc wn rfl
    obtain ⟨o1, o2, o3, o4, o5, o6, o7⟩ := hG
    obtain ⟨t1, t2, t3, t4, t5, t6, t7⟩ := o7
    obtain ⟨z1, z2, z3⟩ := t4.1 k hk
    have hc : gI μ (d + 6 + 2 * k) 2 = nI (nt (A k)) := by rw [(t1 k hk).1]; exact z1
    have e1 := x6_put (v := v) st hc (by omega) hlt (show q < 5 by omega)
    have f1 : Fx (fun a => a = d + 6 + 2 * k + 1) μ (stI μ (d + 6 + 2 * k + 1) (c * 5 + q) v) := Fx.stI rfl
    have f2 : Fx (fun a => a = d + 6 + 2 * k ∨ a = d + 6 + 2 * k + 1) μ (stI μ (d + 6 + 2 * k + 1) (c * 5 + q) v) := f1.mono (fun a ha => Or.inr ha)
    have hix : tS k * c + q < tS k * lms.getD k 0 := ix_lt (by omega) hq
    have hA : ∀ i, ¬ i = tb k + tS k * c + q → ua A (tb k + tS k * c + q) v i = A i := fun i hi => ua_n hi
    have hAk : ua A (tb k + tS k * c + q) v (tb k + tS k * c + q) = v := ua_s _ _ _
    have gg : ∀ i, gI (stI μ (d + 6 + 2 * k + 1) (c * 5 + q) v) (d + 6 + 2 * k + 1) i = if i = c * 5 + q then v else gI μ (d + 6 + 2 * k + 1) i := fun i => by
      rw [q_iI]
      by_cases hi : i = c * 5 + q
      · subst hi; rw [q_us, if_pos rfl]
      · rw [q_un (fun e => hi e.2), if_neg hi]
    have eg : g_put (tb k + tS k * c + q) v (.inr (p, ls, A, nc, wn)) = .inr (p, ls, ua A (tb k + tS k * c + q) v, nc, wn) := rfl
    rw [eg, ht]
    clear eg
    generalize hA2 : ua A (tb k + tS k * c + q) v = A2 at *
    generalize hμ : stI μ (d + 6 + 2 * k + 1) (c * 5 + q) v = μ2 at *
    have e13 : gI μ2 d = gI μ d := f2.I (by omega)
    refine ⟨μ2, e1, ⟨hB.tab hk f2 (by rw [f1.I (by omega)]) (by rw [f1.I (by omega)]; exact (hB.2.2.2.2.1 k hk).2), by rw [e13]; exact o1, by rw [e13]; exact o2, o3, o4, by rw [e13]; exact o5, o6, fun l hl => ?_, fun l l1 l2 => ?_, ?_, ⟨fun l hl => ?_, ?_, ?_⟩, ?_, t6, fun u hu => ?_⟩, frt hk f2⟩
    · obtain ⟨a1, a2⟩ := t1 l hl
      by_cases hlk : l = k
      · subst hlk
        refine ⟨by rw [f1.I (by omega), hA l (by omega)]; exact a1, fun i j hi hj => ?_⟩
        rw [hA l (by omega)] at hi
        rw [gg]
        by_cases he : i = c ∧ j = q
        · obtain ⟨rfl, rfl⟩ := he
          rw [if_pos rfl, hAk]
        · have h5 : ¬ i * 5 + j = c * 5 + q := by omega
          have h6 : ¬ tb l + tS l * i + j = tb l + tS l * c + q := fun e => he (inj_ix (s := tS l) (by omega) hj hq)
          rw [if_neg h5, hA _ h6]; exact a2 i j hi hj
      · refine ⟨by rw [f1.I (by omega), hA l (by omega)]; exact a1, fun i j hi hj => ?_⟩
        rw [hA l (by omega)] at hi
        have hil : tS l * i + j < tS l * lms.getD l 0 := ix_lt (by have := (t4.1 l hl).2.1; omega) hj
        have hd := b2 l hl (fun e => hlk e.symm)
        rw [f1.I (by omega), hA _ (by omega)]; exact a2 i j hi hj
    · have hd := b1.2.2.2.2.2.1
      rw [f1.I (by omega), hA _ (by omega)]; exact t2 l l1 l2
    · have hd := b1.2.2.2.2.2.2
      obtain ⟨a1, a2⟩ := t3
      refine ⟨by rw [f1.I (by omega), hA _ (by omega)]; exact a1, fun i j hi j1 j2 => ?_⟩
      rw [hA _ (by omega)] at hi
      have := t4.2.2
      rw [f1.I (by omega), hA _ (by omega)]; exact a2 i j hi j1 j2
    · obtain ⟨a1, a2, a3⟩ := t4.1 l hl
      rw [hA l (by omega)]
      refine ⟨a1, a2, fun i j hi hi2 hj => ?_⟩
      have hne : ¬ tb l + tS l * i + j = tb k + tS k * c + q := fun e => by
        by_cases hlk : l = k
        · subst hlk
          have := inj_ix (s := tS l) (i := i) (j := j) (i' := c) (j' := q) (by omega) hj hq
          omega
        · have hil : tS l * i + j < tS l * lms.getD l 0 := ix_lt hi2 hj
          have hd := b2 l hl (fun e => hlk e.symm)
          omega
      rw [hA _ hne]; exact a3 i j hi hi2 hj
    · rw [hA 8 (by omega)]; exact t4.2.1
    · rw [hA 8 (by omega)]; exact t4.2.2
    · obtain ⟨a1, a2, a3, a4, a5, a6⟩ := t5
      refine ⟨by rw [e13]; exact a1, a2, a3, a4, fun j hj => ?_, fun u r hu hr => ?_⟩
      · rw [f2.J (by omega), f2.I (by omega), f2.I (by omega)]; exact a5 j hj
      · rw [f2.J (by omega)]; exact a6 u r hu hr
    · rw [hA u (by omega)]; exact t7 u hu
end ROW
